abbrev m_X9_no : XU := (yX9_no, cX9_no, 2, (some .int))
theorem cn_X9_no : m_X9_no.1.cls ≠ "java/lang/invoke/MethodHandle" ∧ m_X9_no.1.cls ≠ "java/lang/invoke/VarHandle" ∧ (parseMethodDescriptor m_X9_no.1.desc).map (fun q => q.parameters.length) = some 1 := by decide +kernel
def f_X9_no (v0 : Nat) (v1 : Int32) (M : XM) : Option (Int32 × XM) :=
  if x_tag M v0 = 9 + 10 then (if x_at M (x_r M v0 9) 1 (-v1) = true then (x_lt (x_wi M (x_r M v0 9) (-v1).toNatClampNeg ((x_i M (x_r M v0 9) (-v1).toNatClampNeg) + (1 : Int32))) (fun M3 => some (v1, M3))) else none) else none
set_option maxRecDepth 20000 in
set_option maxHeartbeats 4000000 in
theorem t_X9_no (l : Launch) {v0 : Nat} {v1 : Int32} {M : XM} {q : Int32 × XM} (H : f_X9_no v0 v1 M = some q) : AW l m_X9_no 1 0 0 (x_Ri q) 0 0 0 [some (.ref v0), some (.int v1)] [] M := by
  unfold f_X9_no at H
  refine x_aload_n 0 0 dX9_no_0 rfl rfl ?_
  obtain ⟨h1, H⟩ := x_ckp H
  refine x_getf 1 28 9 9 (.ref (x_r M v0 9)) dX9_no_1 lk_1039 (by decide) (by decide) rfl (fun _ => rfl) h1 ?_
  refine x_iload_n 4 1 dX9_no_4 rfl rfl ?_
  refine x_ineg 5 dX9_no_5 ?_
  refine x_dup2 6 dX9_no_6 rfl rfl ?_
  obtain ⟨h2, H⟩ := x_ckp H
  refine x_iald 7 dX9_no_7 h2 ?_
  refine x_iconst 8 (1 : Int32) dX9_no_8 (by decide) ?_
  refine x_iadd 9 dX9_no_9 ?_
  obtain ⟨M3, w4, H⟩ := x_lt_of H
  have h5 : x_tag M3 v0 = 9 + 10 := by rw [w4]; exact h1
  have h6 : x_at M3 (x_r M v0 9) 1 (-v1) = true := by rw [w4]; exact h2
  have h7 : x_tag M3 (x_r M v0 9) = 1 := by rw [w4]; exact (x_at_1 h2)
  refine x_iast' 10 dX9_no_10 h2 w4 ?_
  refine x_iload_n 11 1 dX9_no_11 rfl rfl ?_
  cases H
  exact x_iret 12 dX9_no_12 .int rfl rfl (Nat.le_of_ble_eq_true rfl) (Nat.le_of_ble_eq_true rfl) ⟨rfl, rfl⟩

theorem ct_X9_no (l : Launch) {v0 : Nat} {v1 : Int32} {M : XM} {q : Int32 × XM} (H : f_X9_no v0 v1 M = some q) : Ct l m_X9_no 1 0 0 [(.ref v0), (.int v1)] M (x_Ri q) := x_met l m_X9_no 1 0 0 [(.ref v0), (.int v1)] M (x_Ri q) _ rfl rfl (Nat.le_of_ble_eq_true rfl) (t_X9_no l H)
abbrev m_X9_noTen : XU := (yX9_noTen, cX9_noTen, 2, (some .int))
theorem cn_X9_noTen : m_X9_noTen.1.cls ≠ "java/lang/invoke/MethodHandle" ∧ m_X9_noTen.1.cls ≠ "java/lang/invoke/VarHandle" ∧ (parseMethodDescriptor m_X9_noTen.1.desc).map (fun q => q.parameters.length) = some 1 := by decide +kernel
def f_X9_noTen (v0 : Nat) (v1 : Int32) (M : XM) : Option (Int32 × XM) :=
  if x_tag M v0 = 9 + 10 then (if x_at M (x_r M v0 9) 1 (-v1) = true then (x_lt (x_wi M (x_r M v0 9) (-v1).toNatClampNeg ((x_i M (x_r M v0 9) (-v1).toNatClampNeg) + (1 : Int32))) (fun M3 => some ((v1 - (10 : Int32)), M3))) else none) else none
set_option maxRecDepth 20000 in
set_option maxHeartbeats 4000000 in
theorem t_X9_noTen (l : Launch) {v0 : Nat} {v1 : Int32} {M : XM} {q : Int32 × XM} (H : f_X9_noTen v0 v1 M = some q) : AW l m_X9_noTen 1 0 0 (x_Ri q) 0 0 0 [some (.ref v0), some (.int v1)] [] M := by
  unfold f_X9_noTen at H
  refine x_aload_n 0 0 dX9_noTen_0 rfl rfl ?_
  obtain ⟨h1, H⟩ := x_ckp H
  refine x_getf 1 28 9 9 (.ref (x_r M v0 9)) dX9_noTen_1 lk_1039 (by decide) (by decide) rfl (fun _ => rfl) h1 ?_
  refine x_iload_n 4 1 dX9_noTen_4 rfl rfl ?_
  refine x_ineg 5 dX9_noTen_5 ?_
  refine x_dup2 6 dX9_noTen_6 rfl rfl ?_
  obtain ⟨h2, H⟩ := x_ckp H
  refine x_iald 7 dX9_noTen_7 h2 ?_
  refine x_iconst 8 (1 : Int32) dX9_noTen_8 (by decide) ?_
  refine x_iadd 9 dX9_noTen_9 ?_
  obtain ⟨M3, w4, H⟩ := x_lt_of H
  have h5 : x_tag M3 v0 = 9 + 10 := by rw [w4]; exact h1
  have h6 : x_at M3 (x_r M v0 9) 1 (-v1) = true := by rw [w4]; exact h2
  have h7 : x_tag M3 (x_r M v0 9) = 1 := by rw [w4]; exact (x_at_1 h2)
  refine x_iast' 10 dX9_noTen_10 h2 w4 ?_
  refine x_iload_n 11 1 dX9_noTen_11 rfl rfl ?_
  refine x_bipush 12 (10 : Int32) dX9_noTen_12 (by decide) ?_
  refine x_isub 14 dX9_noTen_14 ?_
  cases H
  exact x_iret 15 dX9_noTen_15 .int rfl rfl (Nat.le_of_ble_eq_true rfl) (Nat.le_of_ble_eq_true rfl) ⟨rfl, rfl⟩

theorem ct_X9_noTen (l : Launch) {v0 : Nat} {v1 : Int32} {M : XM} {q : Int32 × XM} (H : f_X9_noTen v0 v1 M = some q) : Ct l m_X9_noTen 1 0 0 [(.ref v0), (.int v1)] M (x_Ri q) := x_met l m_X9_noTen 1 0 0 [(.ref v0), (.int v1)] M (x_Ri q) _ rfl rfl (Nat.le_of_ble_eq_true rfl) (t_X9_noTen l H)
abbrev m_X9_isShelf : XU := (yX9_isShelf, cX9_isShelf, 2, (some .boolean))
theorem cn_X9_isShelf : m_X9_isShelf.1.cls ≠ "java/lang/invoke/MethodHandle" ∧ m_X9_isShelf.1.cls ≠ "java/lang/invoke/VarHandle" ∧ (parseMethodDescriptor m_X9_isShelf.1.desc).map (fun q => q.parameters.length) = some 1 := by decide +kernel
def f_X9_isShelf (v0 : Nat) (v1 : Int32) (M : XM) : Option (Int32 × XM) :=
  if v1 < 0 then (some ((0 : Int32), M)) else (if (8 : Int32) ≤ v1 then (some ((0 : Int32), M)) else (some ((1 : Int32), M)))
set_option maxRecDepth 20000 in
set_option maxHeartbeats 4000000 in
theorem t_X9_isShelf (l : Launch) {v0 : Nat} {v1 : Int32} {M : XM} {q : Int32 × XM} (H : f_X9_isShelf v0 v1 M = some q) : AW l m_X9_isShelf 1 0 0 (x_Ri q) 0 0 0 [some (.ref v0), some (.int v1)] [] M := by
  unfold f_X9_isShelf at H
  refine x_iload_n 0 1 dX9_isShelf_0 rfl rfl ?_
  refine x_if_lt 1 14 dX9_isShelf_1 (by decide) (fun c1 => ?_) (fun c1 => ?_)
  · replace H := x_ifp c1 H
    refine x_iconst 14 (0 : Int32) dX9_isShelf_14 (by decide) ?_
    cases H
    exact x_iret 15 dX9_isShelf_15 .boolean rfl rfl (Nat.le_of_ble_eq_true rfl) (Nat.le_of_ble_eq_true rfl) ⟨rfl, rfl⟩
  · replace H := x_ifn c1 H
    refine x_iload_n 4 1 dX9_isShelf_4 rfl rfl ?_
    refine x_bipush 5 (8 : Int32) dX9_isShelf_5 (by decide) ?_
    refine x_icmp_ge 7 14 dX9_isShelf_7 (by decide) (fun c2 => ?_) (fun c2 => ?_)
    · replace H := x_ifp c2 H
      refine x_iconst 14 (0 : Int32) dX9_isShelf_14 (by decide) ?_
      cases H
      exact x_iret 15 dX9_isShelf_15 .boolean rfl rfl (Nat.le_of_ble_eq_true rfl) (Nat.le_of_ble_eq_true rfl) ⟨rfl, rfl⟩
    · replace H := x_ifn c2 H
      refine x_iconst 10 (1 : Int32) dX9_isShelf_10 (by decide) ?_
      refine x_goto 11 15 dX9_isShelf_11 (by decide) ?_
      cases H
      exact x_iret 15 dX9_isShelf_15 .boolean rfl rfl (Nat.le_of_ble_eq_true rfl) (Nat.le_of_ble_eq_true rfl) ⟨rfl, rfl⟩

theorem ct_X9_isShelf (l : Launch) {v0 : Nat} {v1 : Int32} {M : XM} {q : Int32 × XM} (H : f_X9_isShelf v0 v1 M = some q) : Ct l m_X9_isShelf 1 0 0 [(.ref v0), (.int v1)] M (x_Ri q) := x_met l m_X9_isShelf 1 0 0 [(.ref v0), (.int v1)] M (x_Ri q) _ rfl rfl (Nat.le_of_ble_eq_true rfl) (t_X9_isShelf l H)
theorem lk_1030 : Cond.fieldLink RX9 93 RX9 "many" "I" ∈ x_TB := x_tb (k := 1030) (by decide +kernel) rfl
abbrev m_X9_isCounter : XU := (yX9_isCounter, cX9_isCounter, 2, (some .boolean))
theorem cn_X9_isCounter : m_X9_isCounter.1.cls ≠ "java/lang/invoke/MethodHandle" ∧ m_X9_isCounter.1.cls ≠ "java/lang/invoke/VarHandle" ∧ (parseMethodDescriptor m_X9_isCounter.1.desc).map (fun q => q.parameters.length) = some 1 := by decide +kernel
def f_X9_isCounter (v0 : Nat) (v1 : Int32) (M : XM) : Option (Int32 × XM) :=
  if v1 < 0 then (some ((0 : Int32), M)) else (if x_tag M v0 = 9 + 10 then (if (x_i M v0 0) ≤ v1 then (some ((0 : Int32), M)) else (some ((1 : Int32), M))) else none)
set_option maxRecDepth 20000 in
set_option maxHeartbeats 4000000 in
theorem t_X9_isCounter (l : Launch) {v0 : Nat} {v1 : Int32} {M : XM} {q : Int32 × XM} (H : f_X9_isCounter v0 v1 M = some q) : AW l m_X9_isCounter 1 0 0 (x_Ri q) 0 0 0 [some (.ref v0), some (.int v1)] [] M := by
  unfold f_X9_isCounter at H
  refine x_iload_n 0 1 dX9_isCounter_0 rfl rfl ?_
  refine x_if_lt 1 16 dX9_isCounter_1 (by decide) (fun c1 => ?_) (fun c1 => ?_)
  · replace H := x_ifp c1 H
    refine x_iconst 16 (0 : Int32) dX9_isCounter_16 (by decide) ?_
    cases H
    exact x_iret 17 dX9_isCounter_17 .boolean rfl rfl (Nat.le_of_ble_eq_true rfl) (Nat.le_of_ble_eq_true rfl) ⟨rfl, rfl⟩
  · replace H := x_ifn c1 H
    refine x_iload_n 4 1 dX9_isCounter_4 rfl rfl ?_
    refine x_aload_n 5 0 dX9_isCounter_5 rfl rfl ?_
    obtain ⟨h2, H⟩ := x_ckp H
    refine x_getf 6 93 9 0 (.int (x_i M v0 0)) dX9_isCounter_6 lk_1030 (by decide) (by decide) rfl (fun _ => rfl) h2 ?_
    refine x_icmp_ge 9 16 dX9_isCounter_9 (by decide) (fun c3 => ?_) (fun c3 => ?_)
    · replace H := x_ifp c3 H
      refine x_iconst 16 (0 : Int32) dX9_isCounter_16 (by decide) ?_
      cases H
      exact x_iret 17 dX9_isCounter_17 .boolean rfl rfl (Nat.le_of_ble_eq_true rfl) (Nat.le_of_ble_eq_true rfl) ⟨rfl, rfl⟩
    · replace H := x_ifn c3 H
      refine x_iconst 12 (1 : Int32) dX9_isCounter_12 (by decide) ?_
      refine x_goto 13 17 dX9_isCounter_13 (by decide) ?_
      cases H
      exact x_iret 17 dX9_isCounter_17 .boolean rfl rfl (Nat.le_of_ble_eq_true rfl) (Nat.le_of_ble_eq_true rfl) ⟨rfl, rfl⟩

theorem ct_X9_isCounter (l : Launch) {v0 : Nat} {v1 : Int32} {M : XM} {q : Int32 × XM} (H : f_X9_isCounter v0 v1 M = some q) : Ct l m_X9_isCounter 1 0 0 [(.ref v0), (.int v1)] M (x_Ri q) := x_met l m_X9_isCounter 1 0 0 [(.ref v0), (.int v1)] M (x_Ri q) _ rfl rfl (Nat.le_of_ble_eq_true rfl) (t_X9_isCounter l H)
theorem lk_94 : Cond.initialized RX9 ∈ x_TB := x_tb (k := 94) (by decide +kernel) rfl
theorem lk_1164 : Cond.code yX9_isShelf cX9_isShelf 2 (some .boolean) ∈ x_TB := x_tb (k := 1164) (by decide +kernel) rfl
theorem lk_1161 : Cond.methodLink RX9 96 yX9_isShelf ∈ x_TB := x_tb (k := 1161) (by decide +kernel) rfl
theorem lk_36 : Cond.selects RX9 yX9_isShelf yX9_isShelf ∈ x_TB := x_tb (k := 36) (by decide +kernel) rfl
theorem lk_1163 : Cond.instanceMethod yX9_isShelf ∈ x_TB := x_tb (k := 1163) (by decide +kernel) rfl
theorem lk_1168 : Cond.code yX9_no cX9_no 2 (some .int) ∈ x_TB := x_tb (k := 1168) (by decide +kernel) rfl
theorem lk_1165 : Cond.methodLink RX9 100 yX9_no ∈ x_TB := x_tb (k := 1165) (by decide +kernel) rfl
theorem lk_37 : Cond.selects RX9 yX9_no yX9_no ∈ x_TB := x_tb (k := 37) (by decide +kernel) rfl
theorem lk_1167 : Cond.instanceMethod yX9_no ∈ x_TB := x_tb (k := 1167) (by decide +kernel) rfl
abbrev m_X9_row : XU := (yX9_row, cX9_row, 5, (some .int))
theorem cn_X9_row : m_X9_row.1.cls ≠ "java/lang/invoke/MethodHandle" ∧ m_X9_row.1.cls ≠ "java/lang/invoke/VarHandle" ∧ (parseMethodDescriptor m_X9_row.1.desc).map (fun q => q.parameters.length) = some 3 := by decide +kernel
def f_X9_row_34 (v0 : Nat) (M : XM) : Option (Int32 × XM) :=
  if x_tag M v0 = 9 + 10 then (x_bd (f_X9_no v0 (-6 : Int32) M) (fun r14 M13 => some (r14, M13))) else none
set_option maxRecDepth 20000 in
set_option maxHeartbeats 4000000 in
theorem t_X9_row_34 (l : Launch) {v0 : Nat} {M : XM} {q : Int32 × XM} (H : f_X9_row_34 v0 M = some q) : AW l m_X9_row 2 0 0 (x_Ri q) 0 0 34 [some (.ref v0), none, none, none, none] [] M := by
  unfold f_X9_row_34 at H
  refine x_aload_n 34 0 dX9_row_34 rfl rfl ?_
  refine x_bipush 35 (-6 : Int32) dX9_row_35 (by decide) ?_
  obtain ⟨h12, H⟩ := x_ckp H
  obtain ⟨r14, M13, e15, H⟩ := x_bd_of H
  refine x_callV 37 100 9 [(.int (-6 : Int32))] [] dX9_row_37 (ct_X9_no l e15) lk_1165 lk_1167 lk_37 (by decide) h12 lk_94 lk_1168 ⟨cn_X9_no, (by decide), by decide⟩ rfl (Nat.le_of_ble_eq_true rfl) (Nat.le_of_ble_eq_true rfl) (Nat.le_of_ble_eq_true rfl) (x_ri ?_)
  cases H
  exact x_iret 40 dX9_row_40 .int rfl rfl (Nat.le_of_ble_eq_true rfl) (Nat.le_of_ble_eq_true rfl) ⟨rfl, rfl⟩

def bd_X9_row_79 (κ79 : Nat → Int32 → Int32 → XM → Option (Int32 × XM)) (v0 : Nat) (v1 : Int32) (v4 : Int32) (M : XM) : Option (Int32 × XM) :=
  if (160 : Int32) ≤ v4 then (some ((1 : Int32), M)) else (if x_tag M v0 = 9 + 10 then (if x_at M (x_r M v0 20) 2 (((160 : Int32) * v1) + v4) = true then (x_lt (x_wj M (x_r M v0 20) (((160 : Int32) * v1) + v4).toNatClampNeg (0 : Int64)) (fun M46 => κ79 v0 v1 (v4 + (1 : Int32)) M46)) else none) else none)
set_option maxRecDepth 20000 in
set_option maxHeartbeats 4000000 in
theorem tb_X9_row_79 (l : Launch) {κ79 : Nat → Int32 → Int32 → XM → Option (Int32 × XM)} {v0 : Nat} {v1 : Int32} {v4 : Int32} {M : XM} {q : Int32 × XM} (hκ79 : ∀ (v0 : Nat) (v1 : Int32) (v4 : Int32) (M : XM), κ79 v0 v1 v4 M = some q → AW l m_X9_row 2 0 0 (x_Ri q) 0 0 79 [some (.ref v0), some (.int v1), none, none, some (.int v4)] [] M) (H : bd_X9_row_79 κ79 v0 v1 v4 M = some q) : AW l m_X9_row 2 0 0 (x_Ri q) 0 0 79 [some (.ref v0), some (.int v1), none, none, some (.int v4)] [] M := by
  unfold bd_X9_row_79 at H
  refine x_iload 79 4 dX9_row_79 rfl ?_
  refine x_sipush 81 (160 : Int32) dX9_row_81 (by decide) ?_
  refine x_icmp_ge 84 107 dX9_row_84 (by decide) (fun c43 => ?_) (fun c43 => ?_)
  · replace H := x_ifp c43 H
    refine x_iconst 107 (1 : Int32) dX9_row_107 (by decide) ?_
    cases H
    exact x_iret 108 dX9_row_108 .int rfl rfl (Nat.le_of_ble_eq_true rfl) (Nat.le_of_ble_eq_true rfl) ⟨rfl, rfl⟩
  · replace H := x_ifn c43 H
    refine x_aload_n 87 0 dX9_row_87 rfl rfl ?_
    obtain ⟨h44, H⟩ := x_ckp H
    refine x_getf 88 62 9 20 (.ref (x_r M v0 20)) dX9_row_88 lk_1050 (by decide) (by decide) rfl (fun _ => rfl) h44 ?_
    refine x_sipush 91 (160 : Int32) dX9_row_91 (by decide) ?_
    refine x_iload_n 94 1 dX9_row_94 rfl rfl ?_
    refine x_imul 95 dX9_row_95 ?_
    refine x_iload 96 4 dX9_row_96 rfl ?_
    refine x_iadd 98 dX9_row_98 ?_
    refine x_lconst 99 (0 : Int64) dX9_row_99 (by decide) ?_
    obtain ⟨h45, H⟩ := x_ckp H
    obtain ⟨M46, w47, H⟩ := x_lt_of H
    have h48 : x_tag M46 v0 = 9 + 10 := by rw [w47]; exact h44
    have h49 : x_at M46 (x_r M v0 20) 2 (((160 : Int32) * v1) + v4) = true := by rw [w47]; exact h45
    have h50 : x_tag M46 (x_r M v0 20) = 2 := by rw [w47]; exact (x_at_1 h45)
    refine x_last' 100 dX9_row_100 h45 w47 ?_
    refine x_iinc 101 4 (v4 + (1 : Int32)) [some (.ref v0), some (.int v1), none, none, some (.int (v4 + (1 : Int32)))] dX9_row_101 rfl (congrArg (fun z : Int32 => v4 + z) (show Int32.ofInt (1) = (1 : Int32) by decide)) rfl (Nat.le_of_ble_eq_true rfl) rfl ?_
    refine x_goto 104 79 dX9_row_104 (by decide) ?_
    exact hκ79 _ _ _ _ H

def lp_X9_row_79 (n : Nat) : Nat → Int32 → Int32 → XM → Option (Int32 × XM) := x_rec (fun _ _ _ _ => none) (bd_X9_row_79) n
theorem t_X9_row_79 (l : Launch) {q : Int32 × XM} : ∀ (n : Nat) (v0 : Nat) (v1 : Int32) (v4 : Int32) (M : XM), lp_X9_row_79 n v0 v1 v4 M = some q → AW l m_X9_row 2 0 0 (x_Ri q) 0 0 79 [some (.ref v0), some (.int v1), none, none, some (.int v4)] [] M := by
  intro n
  induction n with
  | zero => intro v0 v1 v4 M H; cases H
  | succ n ih => intro v0 v1 v4 M H; exact tb_X9_row_79 l ih H
def f_X9_row_c2 (v0 : Nat) (v1 : Int32) (v2 : Int32) (v3 : Int32) (s0 : Int32) (M : XM) : Option (Int32 × XM) :=
  if s0 = 0 then (if x_tag M v0 = 9 + 10 then (x_bd (f_X9_no v0 (-1 : Int32) M) (fun r8 M7 => some (r8, M7))) else none) else (if (0 : Int32) ≤ v3 then (if v2 < 0 then (f_X9_row_34 v0 M) else (if v2 ≤ (3 : Int32) then (if v3 ≤ (160 : Int32) then (if x_tag M v0 = 9 + 10 then (if x_at M (x_r M v0 16) 1 v1 = true then (x_lt (x_wi M (x_r M v0 16) v1.toNatClampNeg (1 : Int32)) (fun M20 => if x_at M20 (x_r M20 v0 17) 1 v1 = true then (x_lt (x_wi M20 (x_r M20 v0 17) v1.toNatClampNeg v2) (fun M26 => if x_at M26 (x_r M26 v0 18) 1 v1 = true then (x_lt (x_wi M26 (x_r M26 v0 18) v1.toNatClampNeg v3) (fun M34 => lp_X9_row_79 x_fuel v0 v1 (0 : Int32) M34)) else none)) else none)) else none) else none) else (if x_tag M v0 = 9 + 10 then (x_bd (f_X9_no v0 (-7 : Int32) M) (fun r53 M52 => some (r53, M52))) else none)) else (f_X9_row_34 v0 M))) else (if x_tag M v0 = 9 + 10 then (x_bd (f_X9_no v0 (-4 : Int32) M) (fun r57 M56 => some (r57, M56))) else none))
set_option maxRecDepth 20000 in
set_option maxHeartbeats 4000000 in
theorem t_X9_row_c2 (l : Launch) {v0 : Nat} {v1 : Int32} {v2 : Int32} {v3 : Int32} {s0 : Int32} {M : XM} {q : Int32 × XM} (H : f_X9_row_c2 v0 v1 v2 v3 s0 M = some q) : AW l m_X9_row 2 0 0 (x_Ri q) 0 0 5 [some (.ref v0), some (.int v1), some (.int v2), some (.int v3), none] [(.int s0)] M := by
  unfold f_X9_row_c2 at H
  refine x_if_ne 5 14 dX9_row_5 (by decide) (fun c5 => ?_) (fun c5 => ?_)
  · replace H := x_ifn c5 H
    refine x_iload_n 14 3 dX9_row_14 rfl rfl ?_
    refine x_if_ge 15 25 dX9_row_15 (by decide) (fun c10 => ?_) (fun c10 => ?_)
    · replace H := x_ifp c10 H
      refine x_iload_n 25 2 dX9_row_25 rfl rfl ?_
      refine x_if_lt 26 34 dX9_row_26 (by decide) (fun c11 => ?_) (fun c11 => ?_)
      · replace H := x_ifp c11 H
        exact x_wk (le_s (le_n (le_n (le_n (le_s le_0))))) (t_X9_row_34 l H)
      · replace H := x_ifn c11 H
        refine x_iload_n 29 2 dX9_row_29 rfl rfl ?_
        refine x_iconst 30 (3 : Int32) dX9_row_30 (by decide) ?_
        refine x_icmp_le 31 41 dX9_row_31 (by decide) (fun c16 => ?_) (fun c16 => ?_)
        · replace H := x_ifp c16 H
          refine x_iload_n 41 3 dX9_row_41 rfl rfl ?_
          refine x_sipush 42 (160 : Int32) dX9_row_42 (by decide) ?_
          refine x_icmp_le 45 55 dX9_row_45 (by decide) (fun c17 => ?_) (fun c17 => ?_)
          · replace H := x_ifp c17 H
            refine x_aload_n 55 0 dX9_row_55 rfl rfl ?_
            obtain ⟨h18, H⟩ := x_ckp H
            refine x_getf 56 50 9 16 (.ref (x_r M v0 16)) dX9_row_56 lk_1046 (by decide) (by decide) rfl (fun _ => rfl) h18 ?_
            refine x_iload_n 59 1 dX9_row_59 rfl rfl ?_
            refine x_iconst 60 (1 : Int32) dX9_row_60 (by decide) ?_
            obtain ⟨h19, H⟩ := x_ckp H
            obtain ⟨M20, w21, H⟩ := x_lt_of H
            have h22 : x_tag M20 v0 = 9 + 10 := by rw [w21]; exact h18
            have h23 : x_at M20 (x_r M v0 16) 1 v1 = true := by rw [w21]; exact h19
            have h24 : x_tag M20 (x_r M v0 16) = 1 := by rw [w21]; exact (x_at_1 h19)
            refine x_iast' 61 dX9_row_61 h19 w21 ?_
            refine x_aload_n 62 0 dX9_row_62 rfl rfl ?_
            refine x_getf 63 53 9 17 (.ref (x_r M20 v0 17)) dX9_row_63 lk_1047 (by decide) (by decide) rfl (fun _ => rfl) h22 ?_
            refine x_iload_n 66 1 dX9_row_66 rfl rfl ?_
            refine x_iload_n 67 2 dX9_row_67 rfl rfl ?_
            obtain ⟨h25, H⟩ := x_ckp H
            obtain ⟨M26, w27, H⟩ := x_lt_of H
            have h28 : x_tag M26 v0 = 9 + 10 := by rw [w27]; exact h22
            have h29 : x_at M26 (x_r M v0 16) 1 v1 = true := by rw [w27]; exact h23
            have h30 : x_tag M26 (x_r M v0 16) = 1 := by rw [w27]; exact h24
            have h31 : x_at M26 (x_r M20 v0 17) 1 v1 = true := by rw [w27]; exact h25
            have h32 : x_tag M26 (x_r M20 v0 17) = 1 := by rw [w27]; exact (x_at_1 h25)
            refine x_iast' 68 dX9_row_68 h25 w27 ?_
            refine x_aload_n 69 0 dX9_row_69 rfl rfl ?_
            refine x_getf 70 56 9 18 (.ref (x_r M26 v0 18)) dX9_row_70 lk_1048 (by decide) (by decide) rfl (fun _ => rfl) h28 ?_
            refine x_iload_n 73 1 dX9_row_73 rfl rfl ?_
            refine x_iload_n 74 3 dX9_row_74 rfl rfl ?_
            obtain ⟨h33, H⟩ := x_ckp H
            obtain ⟨M34, w35, H⟩ := x_lt_of H
            have h36 : x_tag M34 v0 = 9 + 10 := by rw [w35]; exact h28
            have h37 : x_at M34 (x_r M v0 16) 1 v1 = true := by rw [w35]; exact h29
            have h38 : x_tag M34 (x_r M v0 16) = 1 := by rw [w35]; exact h30
            have h39 : x_at M34 (x_r M20 v0 17) 1 v1 = true := by rw [w35]; exact h31
            have h40 : x_tag M34 (x_r M20 v0 17) = 1 := by rw [w35]; exact h32
            have h41 : x_at M34 (x_r M26 v0 18) 1 v1 = true := by rw [w35]; exact h33
            have h42 : x_tag M34 (x_r M26 v0 18) = 1 := by rw [w35]; exact (x_at_1 h33)
            refine x_iast' 75 dX9_row_75 h33 w35 ?_
            refine x_iconst 76 (0 : Int32) dX9_row_76 (by decide) ?_
            refine x_istore 77 4 [some (.ref v0), some (.int v1), some (.int v2), some (.int v3), some (.int (0 : Int32))] dX9_row_77 rfl (Nat.le_of_ble_eq_true rfl) rfl ?_
            exact x_wk (le_s (le_s (le_n (le_n (le_s le_0))))) (t_X9_row_79 l _ _ _ _ _ H)
          · replace H := x_ifn c17 H
            refine x_aload_n 48 0 dX9_row_48 rfl rfl ?_
            refine x_bipush 49 (-7 : Int32) dX9_row_49 (by decide) ?_
            obtain ⟨h51, H⟩ := x_ckp H
            obtain ⟨r53, M52, e54, H⟩ := x_bd_of H
            refine x_callV 51 100 9 [(.int (-7 : Int32))] [] dX9_row_51 (ct_X9_no l e54) lk_1165 lk_1167 lk_37 (by decide) h51 lk_94 lk_1168 ⟨cn_X9_no, (by decide), by decide⟩ rfl (Nat.le_of_ble_eq_true rfl) (Nat.le_of_ble_eq_true rfl) (Nat.le_of_ble_eq_true rfl) (x_ri ?_)
            cases H
            exact x_iret 54 dX9_row_54 .int rfl rfl (Nat.le_of_ble_eq_true rfl) (Nat.le_of_ble_eq_true rfl) ⟨rfl, rfl⟩
        · replace H := x_ifn c16 H
          exact x_wk (le_s (le_n (le_n (le_n (le_s le_0))))) (t_X9_row_34 l H)
    · replace H := x_ifn c10 H
      refine x_aload_n 18 0 dX9_row_18 rfl rfl ?_
      refine x_bipush 19 (-4 : Int32) dX9_row_19 (by decide) ?_
      obtain ⟨h55, H⟩ := x_ckp H
      obtain ⟨r57, M56, e58, H⟩ := x_bd_of H
      refine x_callV 21 100 9 [(.int (-4 : Int32))] [] dX9_row_21 (ct_X9_no l e58) lk_1165 lk_1167 lk_37 (by decide) h55 lk_94 lk_1168 ⟨cn_X9_no, (by decide), by decide⟩ rfl (Nat.le_of_ble_eq_true rfl) (Nat.le_of_ble_eq_true rfl) (Nat.le_of_ble_eq_true rfl) (x_ri ?_)
      cases H
      exact x_iret 24 dX9_row_24 .int rfl rfl (Nat.le_of_ble_eq_true rfl) (Nat.le_of_ble_eq_true rfl) ⟨rfl, rfl⟩
  · replace H := x_ifp c5 H
    refine x_aload_n 8 0 dX9_row_8 rfl rfl ?_
    refine x_iconst 9 (-1 : Int32) dX9_row_9 (by decide) ?_
    obtain ⟨h6, H⟩ := x_ckp H
    obtain ⟨r8, M7, e9, H⟩ := x_bd_of H
    refine x_callV 10 100 9 [(.int (-1 : Int32))] [] dX9_row_10 (ct_X9_no l e9) lk_1165 lk_1167 lk_37 (by decide) h6 lk_94 lk_1168 ⟨cn_X9_no, (by decide), by decide⟩ rfl (Nat.le_of_ble_eq_true rfl) (Nat.le_of_ble_eq_true rfl) (Nat.le_of_ble_eq_true rfl) (x_ri ?_)
    cases H
    exact x_iret 13 dX9_row_13 .int rfl rfl (Nat.le_of_ble_eq_true rfl) (Nat.le_of_ble_eq_true rfl) ⟨rfl, rfl⟩

def f_X9_row (v0 : Nat) (v1 : Int32) (v2 : Int32) (v3 : Int32) (M : XM) : Option (Int32 × XM) :=
  if x_tag M v0 = 9 + 10 then (x_bd (f_X9_isShelf v0 v1 M) (f_X9_row_c2 v0 v1 v2 v3)) else none
set_option maxRecDepth 20000 in
set_option maxHeartbeats 4000000 in
theorem t_X9_row (l : Launch) {v0 : Nat} {v1 : Int32} {v2 : Int32} {v3 : Int32} {M : XM} {q : Int32 × XM} (H : f_X9_row v0 v1 v2 v3 M = some q) : AW l m_X9_row 2 0 0 (x_Ri q) 0 0 0 [some (.ref v0), some (.int v1), some (.int v2), some (.int v3), none] [] M := by
  unfold f_X9_row at H
  refine x_aload_n 0 0 dX9_row_0 rfl rfl ?_
  refine x_iload_n 1 1 dX9_row_1 rfl rfl ?_
  obtain ⟨h1, H⟩ := x_ckp H
  obtain ⟨r3, M2, e4, H⟩ := x_bd_of H
  refine x_callV 2 96 9 [(.int v1)] [] dX9_row_2 (ct_X9_isShelf l e4) lk_1161 lk_1163 lk_36 (by decide) h1 lk_94 lk_1164 ⟨cn_X9_isShelf, (by decide), by decide⟩ rfl (Nat.le_of_ble_eq_true rfl) (Nat.le_of_ble_eq_true rfl) (Nat.le_of_ble_eq_true rfl) (x_ri ?_)
  exact t_X9_row_c2 l H

theorem ct_X9_row (l : Launch) {v0 : Nat} {v1 : Int32} {v2 : Int32} {v3 : Int32} {M : XM} {q : Int32 × XM} (H : f_X9_row v0 v1 v2 v3 M = some q) : Ct l m_X9_row 2 0 0 [(.ref v0), (.int v1), (.int v2), (.int v3)] M (x_Ri q) := x_met l m_X9_row 2 0 0 [(.ref v0), (.int v1), (.int v2), (.int v3)] M (x_Ri q) _ rfl rfl (Nat.le_of_ble_eq_true rfl) (t_X9_row l H)
abbrev m_X9_set : XU := (yX9_set, cX9_set, 5, (some .int))
theorem cn_X9_set : m_X9_set.1.cls ≠ "java/lang/invoke/MethodHandle" ∧ m_X9_set.1.cls ≠ "java/lang/invoke/VarHandle" ∧ (parseMethodDescriptor m_X9_set.1.desc).map (fun q => q.parameters.length) = some 3 := by decide +kernel
def f_X9_set_61 (v0 : Nat) (M : XM) : Option (Int32 × XM) :=
  if x_tag M v0 = 9 + 10 then (x_bd (f_X9_no v0 (-5 : Int32) M) (fun r23 M22 => some (r23, M22))) else none
set_option maxRecDepth 20000 in
set_option maxHeartbeats 4000000 in
theorem t_X9_set_61 (l : Launch) {v0 : Nat} {M : XM} {q : Int32 × XM} (H : f_X9_set_61 v0 M = some q) : AW l m_X9_set 2 0 0 (x_Ri q) 0 0 61 [some (.ref v0), none, none, none, none] [] M := by
  unfold f_X9_set_61 at H
  refine x_aload_n 61 0 dX9_set_61 rfl rfl ?_
  refine x_bipush 62 (-5 : Int32) dX9_set_62 (by decide) ?_
  obtain ⟨h21, H⟩ := x_ckp H
  obtain ⟨r23, M22, e24, H⟩ := x_bd_of H
  refine x_callV 64 100 9 [(.int (-5 : Int32))] [] dX9_set_64 (ct_X9_no l e24) lk_1165 lk_1167 lk_37 (by decide) h21 lk_94 lk_1168 ⟨cn_X9_no, (by decide), by decide⟩ rfl (Nat.le_of_ble_eq_true rfl) (Nat.le_of_ble_eq_true rfl) (Nat.le_of_ble_eq_true rfl) (x_ri ?_)
  cases H
  exact x_iret 67 dX9_set_67 .int rfl rfl (Nat.le_of_ble_eq_true rfl) (Nat.le_of_ble_eq_true rfl) ⟨rfl, rfl⟩

def f_X9_set_129 (s0 : Int64) (s1 : Int32) (s2 : Nat) (M : XM) : Option (Int32 × XM) :=
  if x_at M s2 2 s1 = true then (x_lt (x_wj M s2 s1.toNatClampNeg s0) (fun M30 => some ((1 : Int32), M30))) else none
set_option maxRecDepth 20000 in
set_option maxHeartbeats 4000000 in
theorem t_X9_set_129 (l : Launch) {s0 : Int64} {s1 : Int32} {s2 : Nat} {M : XM} {q : Int32 × XM} (H : f_X9_set_129 s0 s1 s2 M = some q) : AW l m_X9_set 2 0 0 (x_Ri q) 0 0 129 [none, none, none, none, none] [(.long s0), (.int s1), (.ref s2)] M := by
  unfold f_X9_set_129 at H
  obtain ⟨h29, H⟩ := x_ckp H
  obtain ⟨M30, w31, H⟩ := x_lt_of H
  have h32 : x_at M30 s2 2 s1 = true := by rw [w31]; exact h29
  have h33 : x_tag M30 s2 = 2 := by rw [w31]; exact (x_at_1 h29)
  refine x_last' 129 dX9_set_129 h29 w31 ?_
  refine x_iconst 130 (1 : Int32) dX9_set_130 (by decide) ?_
  cases H
  exact x_iret 131 dX9_set_131 .int rfl rfl (Nat.le_of_ble_eq_true rfl) (Nat.le_of_ble_eq_true rfl) ⟨rfl, rfl⟩

def f_X9_set_c2 (v0 : Nat) (v1 : Int32) (v2 : Int32) (v3 : Int64) (s0 : Int32) (M : XM) : Option (Int32 × XM) :=
  if s0 = 0 then (if x_tag M v0 = 9 + 10 then (x_bd (f_X9_no v0 (-1 : Int32) M) (fun r8 M7 => some (r8, M7))) else none) else (if x_tag M v0 = 9 + 10 then (if x_at M (x_r M v0 16) 1 v1 = true then (if (x_i M (x_r M v0 16) v1.toNatClampNeg) = (2 : Int32) then (x_bd (f_X9_no v0 (-2 : Int32) M) (fun r14 M13 => some (r14, M13))) else (if (x_i M (x_r M v0 16) v1.toNatClampNeg) = 0 then (x_bd (f_X9_no v0 (-3 : Int32) M) (fun r18 M17 => some (r18, M17))) else (if v2 < 0 then (f_X9_set_61 v0 M) else (if x_at M (x_r M v0 18) 1 v1 = true then (if v2 < (x_i M (x_r M v0 18) v1.toNatClampNeg) then (if x_at M (x_r M v0 17) 1 v1 = true then (if (x_i M (x_r M v0 17) v1.toNatClampNeg) = 0 then (f_X9_set_129 (((v3.toInt32).toInt8.toInt32).toInt64) (((160 : Int32) * v1) + v2) (x_r M v0 20) M) else (if (x_i M (x_r M v0 17) v1.toNatClampNeg) = (1 : Int32) then (f_X9_set_129 (((v3.toInt32).toInt16.toInt32).toInt64) (((160 : Int32) * v1) + v2) (x_r M v0 20) M) else (if (x_i M (x_r M v0 17) v1.toNatClampNeg) = (2 : Int32) then (f_X9_set_129 ((v3.toInt32).toInt64) (((160 : Int32) * v1) + v2) (x_r M v0 20) M) else (f_X9_set_129 v3 (((160 : Int32) * v1) + v2) (x_r M v0 20) M)))) else none) else (f_X9_set_61 v0 M)) else none)))) else none) else none)
set_option maxRecDepth 20000 in
set_option maxHeartbeats 4000000 in
theorem t_X9_set_c2 (l : Launch) {v0 : Nat} {v1 : Int32} {v2 : Int32} {v3 : Int64} {s0 : Int32} {M : XM} {q : Int32 × XM} (H : f_X9_set_c2 v0 v1 v2 v3 s0 M = some q) : AW l m_X9_set 2 0 0 (x_Ri q) 0 0 5 [some (.ref v0), some (.int v1), some (.int v2), some (.long v3), none] [(.int s0)] M := by
  unfold f_X9_set_c2 at H
  refine x_if_ne 5 14 dX9_set_5 (by decide) (fun c5 => ?_) (fun c5 => ?_)
  · replace H := x_ifn c5 H
    refine x_aload_n 14 0 dX9_set_14 rfl rfl ?_
    obtain ⟨h10, H⟩ := x_ckp H
    refine x_getf 15 50 9 16 (.ref (x_r M v0 16)) dX9_set_15 lk_1046 (by decide) (by decide) rfl (fun _ => rfl) h10 ?_
    refine x_iload_n 18 1 dX9_set_18 rfl rfl ?_
    obtain ⟨h11, H⟩ := x_ckp H
    refine x_iald 19 dX9_set_19 h11 ?_
    refine x_iconst 20 (2 : Int32) dX9_set_20 (by decide) ?_
    refine x_icmp_ne 21 31 dX9_set_21 (by decide) (fun c12 => ?_) (fun c12 => ?_)
    · replace H := x_ifn c12 H
      refine x_aload_n 31 0 dX9_set_31 rfl rfl ?_
      refine x_getf 32 50 9 16 (.ref (x_r M v0 16)) dX9_set_32 lk_1046 (by decide) (by decide) rfl (fun _ => rfl) h10 ?_
      refine x_iload_n 35 1 dX9_set_35 rfl rfl ?_
      refine x_iald 36 dX9_set_36 h11 ?_
      refine x_if_ne 37 47 dX9_set_37 (by decide) (fun c16 => ?_) (fun c16 => ?_)
      · replace H := x_ifn c16 H
        refine x_iload_n 47 2 dX9_set_47 rfl rfl ?_
        refine x_if_lt 48 61 dX9_set_48 (by decide) (fun c20 => ?_) (fun c20 => ?_)
        · replace H := x_ifp c20 H
          exact x_wk (le_s (le_n (le_n (le_n (le_s le_0))))) (t_X9_set_61 l H)
        · replace H := x_ifn c20 H
          refine x_iload_n 51 2 dX9_set_51 rfl rfl ?_
          refine x_aload_n 52 0 dX9_set_52 rfl rfl ?_
          refine x_getf 53 56 9 18 (.ref (x_r M v0 18)) dX9_set_53 lk_1048 (by decide) (by decide) rfl (fun _ => rfl) h10 ?_
          refine x_iload_n 56 1 dX9_set_56 rfl rfl ?_
          obtain ⟨h25, H⟩ := x_ckp H
          refine x_iald 57 dX9_set_57 h25 ?_
          refine x_icmp_lt 58 68 dX9_set_58 (by decide) (fun c26 => ?_) (fun c26 => ?_)
          · replace H := x_ifp c26 H
            refine x_aload_n 68 0 dX9_set_68 rfl rfl ?_
            refine x_getf 69 62 9 20 (.ref (x_r M v0 20)) dX9_set_69 lk_1050 (by decide) (by decide) rfl (fun _ => rfl) h10 ?_
            refine x_sipush 72 (160 : Int32) dX9_set_72 (by decide) ?_
            refine x_iload_n 75 1 dX9_set_75 rfl rfl ?_
            refine x_imul 76 dX9_set_76 ?_
            refine x_iload_n 77 2 dX9_set_77 rfl rfl ?_
            refine x_iadd 78 dX9_set_78 ?_
            refine x_aload_n 79 0 dX9_set_79 rfl rfl ?_
            refine x_getf 80 53 9 17 (.ref (x_r M v0 17)) dX9_set_80 lk_1047 (by decide) (by decide) rfl (fun _ => rfl) h10 ?_
            refine x_iload_n 83 1 dX9_set_83 rfl rfl ?_
            obtain ⟨h27, H⟩ := x_ckp H
            refine x_iald 84 dX9_set_84 h27 ?_
            refine x_if_ne 85 95 dX9_set_85 (by decide) (fun c28 => ?_) (fun c28 => ?_)
            · replace H := x_ifn c28 H
              refine x_aload_n 95 0 dX9_set_95 rfl rfl ?_
              refine x_getf 96 53 9 17 (.ref (x_r M v0 17)) dX9_set_96 lk_1047 (by decide) (by decide) rfl (fun _ => rfl) h10 ?_
              refine x_iload_n 99 1 dX9_set_99 rfl rfl ?_
              refine x_iald 100 dX9_set_100 h27 ?_
              refine x_iconst 101 (1 : Int32) dX9_set_101 (by decide) ?_
              refine x_icmp_ne 102 112 dX9_set_102 (by decide) (fun c34 => ?_) (fun c34 => ?_)
              · replace H := x_ifn c34 H
                refine x_aload_n 112 0 dX9_set_112 rfl rfl ?_
                refine x_getf 113 53 9 17 (.ref (x_r M v0 17)) dX9_set_113 lk_1047 (by decide) (by decide) rfl (fun _ => rfl) h10 ?_
                refine x_iload_n 116 1 dX9_set_116 rfl rfl ?_
                refine x_iald 117 dX9_set_117 h27 ?_
                refine x_iconst 118 (2 : Int32) dX9_set_118 (by decide) ?_
                refine x_icmp_ne 119 128 dX9_set_119 (by decide) (fun c35 => ?_) (fun c35 => ?_)
                · replace H := x_ifn c35 H
                  refine x_lload_n 128 3 dX9_set_128 rfl rfl ?_
                  exact x_wk (le_n (le_n (le_n (le_n (le_s le_0))))) (t_X9_set_129 l H)
                · replace H := x_ifp c35 H
                  refine x_lload_n 122 3 dX9_set_122 rfl rfl ?_
                  refine x_l2i 123 dX9_set_123 ?_
                  refine x_i2l 124 dX9_set_124 ?_
                  refine x_goto 125 129 dX9_set_125 (by decide) ?_
                  exact x_wk (le_n (le_n (le_n (le_n (le_s le_0))))) (t_X9_set_129 l H)
              · replace H := x_ifp c34 H
                refine x_lload_n 105 3 dX9_set_105 rfl rfl ?_
                refine x_l2i 106 dX9_set_106 ?_
                refine x_i2s 107 dX9_set_107 ?_
                refine x_i2l 108 dX9_set_108 ?_
                refine x_goto 109 129 dX9_set_109 (by decide) ?_
                exact x_wk (le_n (le_n (le_n (le_n (le_s le_0))))) (t_X9_set_129 l H)
            · replace H := x_ifp c28 H
              refine x_lload_n 88 3 dX9_set_88 rfl rfl ?_
              refine x_l2i 89 dX9_set_89 ?_
              refine x_i2b 90 dX9_set_90 ?_
              refine x_i2l 91 dX9_set_91 ?_
              refine x_goto 92 129 dX9_set_92 (by decide) ?_
              exact x_wk (le_n (le_n (le_n (le_n (le_s le_0))))) (t_X9_set_129 l H)
          · replace H := x_ifn c26 H
            exact x_wk (le_s (le_n (le_n (le_n (le_s le_0))))) (t_X9_set_61 l H)
      · replace H := x_ifp c16 H
        refine x_aload_n 40 0 dX9_set_40 rfl rfl ?_
        refine x_bipush 41 (-3 : Int32) dX9_set_41 (by decide) ?_
        obtain ⟨r18, M17, e19, H⟩ := x_bd_of H
        refine x_callV 43 100 9 [(.int (-3 : Int32))] [] dX9_set_43 (ct_X9_no l e19) lk_1165 lk_1167 lk_37 (by decide) h10 lk_94 lk_1168 ⟨cn_X9_no, (by decide), by decide⟩ rfl (Nat.le_of_ble_eq_true rfl) (Nat.le_of_ble_eq_true rfl) (Nat.le_of_ble_eq_true rfl) (x_ri ?_)
        cases H
        exact x_iret 46 dX9_set_46 .int rfl rfl (Nat.le_of_ble_eq_true rfl) (Nat.le_of_ble_eq_true rfl) ⟨rfl, rfl⟩
    · replace H := x_ifp c12 H
      refine x_aload_n 24 0 dX9_set_24 rfl rfl ?_
      refine x_bipush 25 (-2 : Int32) dX9_set_25 (by decide) ?_
      obtain ⟨r14, M13, e15, H⟩ := x_bd_of H
      refine x_callV 27 100 9 [(.int (-2 : Int32))] [] dX9_set_27 (ct_X9_no l e15) lk_1165 lk_1167 lk_37 (by decide) h10 lk_94 lk_1168 ⟨cn_X9_no, (by decide), by decide⟩ rfl (Nat.le_of_ble_eq_true rfl) (Nat.le_of_ble_eq_true rfl) (Nat.le_of_ble_eq_true rfl) (x_ri ?_)
      cases H
      exact x_iret 30 dX9_set_30 .int rfl rfl (Nat.le_of_ble_eq_true rfl) (Nat.le_of_ble_eq_true rfl) ⟨rfl, rfl⟩
  · replace H := x_ifp c5 H
    refine x_aload_n 8 0 dX9_set_8 rfl rfl ?_
    refine x_iconst 9 (-1 : Int32) dX9_set_9 (by decide) ?_
    obtain ⟨h6, H⟩ := x_ckp H
    obtain ⟨r8, M7, e9, H⟩ := x_bd_of H
    refine x_callV 10 100 9 [(.int (-1 : Int32))] [] dX9_set_10 (ct_X9_no l e9) lk_1165 lk_1167 lk_37 (by decide) h6 lk_94 lk_1168 ⟨cn_X9_no, (by decide), by decide⟩ rfl (Nat.le_of_ble_eq_true rfl) (Nat.le_of_ble_eq_true rfl) (Nat.le_of_ble_eq_true rfl) (x_ri ?_)
    cases H
    exact x_iret 13 dX9_set_13 .int rfl rfl (Nat.le_of_ble_eq_true rfl) (Nat.le_of_ble_eq_true rfl) ⟨rfl, rfl⟩

def f_X9_set (v0 : Nat) (v1 : Int32) (v2 : Int32) (v3 : Int64) (M : XM) : Option (Int32 × XM) :=
  if x_tag M v0 = 9 + 10 then (x_bd (f_X9_isShelf v0 v1 M) (f_X9_set_c2 v0 v1 v2 v3)) else none
set_option maxRecDepth 20000 in
set_option maxHeartbeats 4000000 in
theorem t_X9_set (l : Launch) {v0 : Nat} {v1 : Int32} {v2 : Int32} {v3 : Int64} {M : XM} {q : Int32 × XM} (H : f_X9_set v0 v1 v2 v3 M = some q) : AW l m_X9_set 2 0 0 (x_Ri q) 0 0 0 [some (.ref v0), some (.int v1), some (.int v2), some (.long v3), none] [] M := by
  unfold f_X9_set at H
  refine x_aload_n 0 0 dX9_set_0 rfl rfl ?_
  refine x_iload_n 1 1 dX9_set_1 rfl rfl ?_
  obtain ⟨h1, H⟩ := x_ckp H
  obtain ⟨r3, M2, e4, H⟩ := x_bd_of H
  refine x_callV 2 96 9 [(.int v1)] [] dX9_set_2 (ct_X9_isShelf l e4) lk_1161 lk_1163 lk_36 (by decide) h1 lk_94 lk_1164 ⟨cn_X9_isShelf, (by decide), by decide⟩ rfl (Nat.le_of_ble_eq_true rfl) (Nat.le_of_ble_eq_true rfl) (Nat.le_of_ble_eq_true rfl) (x_ri ?_)
  exact t_X9_set_c2 l H

theorem ct_X9_set (l : Launch) {v0 : Nat} {v1 : Int32} {v2 : Int32} {v3 : Int64} {M : XM} {q : Int32 × XM} (H : f_X9_set v0 v1 v2 v3 M = some q) : Ct l m_X9_set 2 0 0 [(.ref v0), (.int v1), (.int v2), (.long v3)] M (x_Ri q) := x_met l m_X9_set 2 0 0 [(.ref v0), (.int v1), (.int v2), (.long v3)] M (x_Ri q) _ rfl rfl (Nat.le_of_ble_eq_true rfl) (t_X9_set l H)
abbrev m_X9_copy : XU := (yX9_copy, cX9_copy, 7, (some .int))
theorem cn_X9_copy : m_X9_copy.1.cls ≠ "java/lang/invoke/MethodHandle" ∧ m_X9_copy.1.cls ≠ "java/lang/invoke/VarHandle" ∧ (parseMethodDescriptor m_X9_copy.1.desc).map (fun q => q.parameters.length) = some 5 := by decide +kernel
def f_X9_copy_16 (v0 : Nat) (M : XM) : Option (Int32 × XM) :=
  if x_tag M v0 = 9 + 10 then (x_bd (f_X9_no v0 (-1 : Int32) M) (fun r8 M7 => some (r8, M7))) else none
set_option maxRecDepth 20000 in
set_option maxHeartbeats 4000000 in
theorem t_X9_copy_16 (l : Launch) {v0 : Nat} {M : XM} {q : Int32 × XM} (H : f_X9_copy_16 v0 M = some q) : AW l m_X9_copy 2 0 0 (x_Ri q) 0 0 16 [some (.ref v0), none, none, none, none, none, none] [] M := by
  unfold f_X9_copy_16 at H
  refine x_aload_n 16 0 dX9_copy_16 rfl rfl ?_
  refine x_iconst 17 (-1 : Int32) dX9_copy_17 (by decide) ?_
  obtain ⟨h6, H⟩ := x_ckp H
  obtain ⟨r8, M7, e9, H⟩ := x_bd_of H
  refine x_callV 18 100 9 [(.int (-1 : Int32))] [] dX9_copy_18 (ct_X9_no l e9) lk_1165 lk_1167 lk_37 (by decide) h6 lk_94 lk_1168 ⟨cn_X9_no, (by decide), by decide⟩ rfl (Nat.le_of_ble_eq_true rfl) (Nat.le_of_ble_eq_true rfl) (Nat.le_of_ble_eq_true rfl) (x_ri ?_)
  cases H
  exact x_iret 21 dX9_copy_21 .int rfl rfl (Nat.le_of_ble_eq_true rfl) (Nat.le_of_ble_eq_true rfl) ⟨rfl, rfl⟩

def f_X9_copy_77 (v0 : Nat) (M : XM) : Option (Int32 × XM) :=
  if x_tag M v0 = 9 + 10 then (x_bd (f_X9_no v0 (-2 : Int32) M) (fun r20 M19 => some (r20, M19))) else none
set_option maxRecDepth 20000 in
set_option maxHeartbeats 4000000 in
theorem t_X9_copy_77 (l : Launch) {v0 : Nat} {M : XM} {q : Int32 × XM} (H : f_X9_copy_77 v0 M = some q) : AW l m_X9_copy 2 0 0 (x_Ri q) 0 0 77 [some (.ref v0), none, none, none, none, none, none] [] M := by
  unfold f_X9_copy_77 at H
  refine x_aload_n 77 0 dX9_copy_77 rfl rfl ?_
  refine x_bipush 78 (-2 : Int32) dX9_copy_78 (by decide) ?_
  obtain ⟨h18, H⟩ := x_ckp H
  obtain ⟨r20, M19, e21, H⟩ := x_bd_of H
  refine x_callV 80 100 9 [(.int (-2 : Int32))] [] dX9_copy_80 (ct_X9_no l e21) lk_1165 lk_1167 lk_37 (by decide) h18 lk_94 lk_1168 ⟨cn_X9_no, (by decide), by decide⟩ rfl (Nat.le_of_ble_eq_true rfl) (Nat.le_of_ble_eq_true rfl) (Nat.le_of_ble_eq_true rfl) (x_ri ?_)
  cases H
  exact x_iret 83 dX9_copy_83 .int rfl rfl (Nat.le_of_ble_eq_true rfl) (Nat.le_of_ble_eq_true rfl) ⟨rfl, rfl⟩

def f_X9_copy_102 (v0 : Nat) (M : XM) : Option (Int32 × XM) :=
  if x_tag M v0 = 9 + 10 then (x_bd (f_X9_no v0 (-3 : Int32) M) (fun r34 M33 => some (r34, M33))) else none
set_option maxRecDepth 20000 in
set_option maxHeartbeats 4000000 in
theorem t_X9_copy_102 (l : Launch) {v0 : Nat} {M : XM} {q : Int32 × XM} (H : f_X9_copy_102 v0 M = some q) : AW l m_X9_copy 2 0 0 (x_Ri q) 0 0 102 [some (.ref v0), none, none, none, none, none, none] [] M := by
  unfold f_X9_copy_102 at H
  refine x_aload_n 102 0 dX9_copy_102 rfl rfl ?_
  refine x_bipush 103 (-3 : Int32) dX9_copy_103 (by decide) ?_
  obtain ⟨h32, H⟩ := x_ckp H
  obtain ⟨r34, M33, e35, H⟩ := x_bd_of H
  refine x_callV 105 100 9 [(.int (-3 : Int32))] [] dX9_copy_105 (ct_X9_no l e35) lk_1165 lk_1167 lk_37 (by decide) h32 lk_94 lk_1168 ⟨cn_X9_no, (by decide), by decide⟩ rfl (Nat.le_of_ble_eq_true rfl) (Nat.le_of_ble_eq_true rfl) (Nat.le_of_ble_eq_true rfl) (x_ri ?_)
  cases H
  exact x_iret 108 dX9_copy_108 .int rfl rfl (Nat.le_of_ble_eq_true rfl) (Nat.le_of_ble_eq_true rfl) ⟨rfl, rfl⟩

def f_X9_copy_157 (v0 : Nat) (M : XM) : Option (Int32 × XM) :=
  if x_tag M v0 = 9 + 10 then (x_bd (f_X9_no v0 (-5 : Int32) M) (fun r42 M41 => some (r42, M41))) else none
set_option maxRecDepth 20000 in
set_option maxHeartbeats 4000000 in
theorem t_X9_copy_157 (l : Launch) {v0 : Nat} {M : XM} {q : Int32 × XM} (H : f_X9_copy_157 v0 M = some q) : AW l m_X9_copy 2 0 0 (x_Ri q) 0 0 157 [some (.ref v0), none, none, none, none, none, none] [] M := by
  unfold f_X9_copy_157 at H
  refine x_aload_n 157 0 dX9_copy_157 rfl rfl ?_
  refine x_bipush 158 (-5 : Int32) dX9_copy_158 (by decide) ?_
  obtain ⟨h40, H⟩ := x_ckp H
  obtain ⟨r42, M41, e43, H⟩ := x_bd_of H
  refine x_callV 160 100 9 [(.int (-5 : Int32))] [] dX9_copy_160 (ct_X9_no l e43) lk_1165 lk_1167 lk_37 (by decide) h40 lk_94 lk_1168 ⟨cn_X9_no, (by decide), by decide⟩ rfl (Nat.le_of_ble_eq_true rfl) (Nat.le_of_ble_eq_true rfl) (Nat.le_of_ble_eq_true rfl) (x_ri ?_)
  cases H
  exact x_iret 163 dX9_copy_163 .int rfl rfl (Nat.le_of_ble_eq_true rfl) (Nat.le_of_ble_eq_true rfl) ⟨rfl, rfl⟩

def bd_X9_copy_205 (κ205 : Nat → Int32 → Int32 → Int32 → Int32 → XM → Option (Int32 × XM)) (v0 : Nat) (v2 : Int32) (v4 : Int32) (v5 : Int32) (v6 : Int32) (M : XM) : Option (Int32 × XM) :=
  if v5 ≤ v6 then (some ((1 : Int32), M)) else (if x_tag M v0 = 9 + 10 then (if x_at M (x_r M v0 21) 2 v6 = true then (if x_at M (x_r M v0 20) 2 ((((160 : Int32) * v2) + v4) + v6) = true then (x_lt (x_wj M (x_r M v0 20) ((((160 : Int32) * v2) + v4) + v6).toNatClampNeg (x_j M (x_r M v0 21) v6.toNatClampNeg)) (fun M54 => κ205 v0 v2 v4 v5 (v6 + (1 : Int32)) M54)) else none) else none) else none)
set_option maxRecDepth 20000 in
set_option maxHeartbeats 4000000 in
theorem tb_X9_copy_205 (l : Launch) {κ205 : Nat → Int32 → Int32 → Int32 → Int32 → XM → Option (Int32 × XM)} {v0 : Nat} {v2 : Int32} {v4 : Int32} {v5 : Int32} {v6 : Int32} {M : XM} {q : Int32 × XM} (hκ205 : ∀ (v0 : Nat) (v2 : Int32) (v4 : Int32) (v5 : Int32) (v6 : Int32) (M : XM), κ205 v0 v2 v4 v5 v6 M = some q → AW l m_X9_copy 2 0 0 (x_Ri q) 0 0 205 [some (.ref v0), none, some (.int v2), none, some (.int v4), some (.int v5), some (.int v6)] [] M) (H : bd_X9_copy_205 κ205 v0 v2 v4 v5 v6 M = some q) : AW l m_X9_copy 2 0 0 (x_Ri q) 0 0 205 [some (.ref v0), none, some (.int v2), none, some (.int v4), some (.int v5), some (.int v6)] [] M := by
  unfold bd_X9_copy_205 at H
  refine x_iload 205 6 dX9_copy_205 rfl ?_
  refine x_iload 207 5 dX9_copy_207 rfl ?_
  refine x_icmp_ge 209 241 dX9_copy_209 (by decide) (fun c50 => ?_) (fun c50 => ?_)
  · replace H := x_ifp c50 H
    refine x_iconst 241 (1 : Int32) dX9_copy_241 (by decide) ?_
    cases H
    exact x_iret 242 dX9_copy_242 .int rfl rfl (Nat.le_of_ble_eq_true rfl) (Nat.le_of_ble_eq_true rfl) ⟨rfl, rfl⟩
  · replace H := x_ifn c50 H
    refine x_aload_n 212 0 dX9_copy_212 rfl rfl ?_
    obtain ⟨h51, H⟩ := x_ckp H
    refine x_getf 213 62 9 20 (.ref (x_r M v0 20)) dX9_copy_213 lk_1050 (by decide) (by decide) rfl (fun _ => rfl) h51 ?_
    refine x_sipush 216 (160 : Int32) dX9_copy_216 (by decide) ?_
    refine x_iload_n 219 2 dX9_copy_219 rfl rfl ?_
    refine x_imul 220 dX9_copy_220 ?_
    refine x_iload 221 4 dX9_copy_221 rfl ?_
    refine x_iadd 223 dX9_copy_223 ?_
    refine x_iload 224 6 dX9_copy_224 rfl ?_
    refine x_iadd 226 dX9_copy_226 ?_
    refine x_aload_n 227 0 dX9_copy_227 rfl rfl ?_
    refine x_getf 228 66 9 21 (.ref (x_r M v0 21)) dX9_copy_228 lk_1051 (by decide) (by decide) rfl (fun _ => rfl) h51 ?_
    refine x_iload 231 6 dX9_copy_231 rfl ?_
    obtain ⟨h52, H⟩ := x_ckp H
    refine x_lald 233 dX9_copy_233 h52 ?_
    obtain ⟨h53, H⟩ := x_ckp H
    obtain ⟨M54, w55, H⟩ := x_lt_of H
    have h56 : x_tag M54 v0 = 9 + 10 := by rw [w55]; exact h51
    have h57 : x_at M54 (x_r M v0 21) 2 v6 = true := by rw [w55]; exact h52
    have h58 : x_tag M54 (x_r M v0 21) = 2 := by rw [w55]; exact (x_at_1 h52)
    have h59 : x_at M54 (x_r M v0 20) 2 ((((160 : Int32) * v2) + v4) + v6) = true := by rw [w55]; exact h53
    have h60 : x_tag M54 (x_r M v0 20) = 2 := by rw [w55]; exact (x_at_1 h53)
    refine x_last' 234 dX9_copy_234 h53 w55 ?_
    refine x_iinc 235 6 (v6 + (1 : Int32)) [some (.ref v0), none, some (.int v2), none, some (.int v4), some (.int v5), some (.int (v6 + (1 : Int32)))] dX9_copy_235 rfl (congrArg (fun z : Int32 => v6 + z) (show Int32.ofInt (1) = (1 : Int32) by decide)) rfl (Nat.le_of_ble_eq_true rfl) rfl ?_
    refine x_goto 238 205 dX9_copy_238 (by decide) ?_
    exact hκ205 _ _ _ _ _ _ H

def lp_X9_copy_205 (n : Nat) : Nat → Int32 → Int32 → Int32 → Int32 → XM → Option (Int32 × XM) := x_rec (fun _ _ _ _ _ _ => none) (bd_X9_copy_205) n
theorem t_X9_copy_205 (l : Launch) {q : Int32 × XM} : ∀ (n : Nat) (v0 : Nat) (v2 : Int32) (v4 : Int32) (v5 : Int32) (v6 : Int32) (M : XM), lp_X9_copy_205 n v0 v2 v4 v5 v6 M = some q → AW l m_X9_copy 2 0 0 (x_Ri q) 0 0 205 [some (.ref v0), none, some (.int v2), none, some (.int v4), some (.int v5), some (.int v6)] [] M := by
  intro n
  induction n with
  | zero => intro v0 v2 v4 v5 v6 M H; cases H
  | succ n ih => intro v0 v2 v4 v5 v6 M H; exact tb_X9_copy_205 l ih H
def bd_X9_copy_167 (κ167 : Nat → Int32 → Int32 → Int32 → Int32 → Int32 → Int32 → XM → Option (Int32 × XM)) (v0 : Nat) (v1 : Int32) (v2 : Int32) (v3 : Int32) (v4 : Int32) (v5 : Int32) (v6 : Int32) (M : XM) : Option (Int32 × XM) :=
  if v5 ≤ v6 then (lp_X9_copy_205 x_fuel v0 v2 v4 v5 (0 : Int32) M) else (if x_tag M v0 = 9 + 10 then (if x_at M (x_r M v0 20) 2 ((((160 : Int32) * v1) + v3) + v6) = true then (if x_at M (x_r M v0 21) 2 v6 = true then (x_lt (x_wj M (x_r M v0 21) v6.toNatClampNeg (x_j M (x_r M v0 20) ((((160 : Int32) * v1) + v3) + v6).toNatClampNeg)) (fun M64 => κ167 v0 v1 v2 v3 v4 v5 (v6 + (1 : Int32)) M64)) else none) else none) else none)
set_option maxRecDepth 20000 in
set_option maxHeartbeats 4000000 in
theorem tb_X9_copy_167 (l : Launch) {κ167 : Nat → Int32 → Int32 → Int32 → Int32 → Int32 → Int32 → XM → Option (Int32 × XM)} {v0 : Nat} {v1 : Int32} {v2 : Int32} {v3 : Int32} {v4 : Int32} {v5 : Int32} {v6 : Int32} {M : XM} {q : Int32 × XM} (hκ167 : ∀ (v0 : Nat) (v1 : Int32) (v2 : Int32) (v3 : Int32) (v4 : Int32) (v5 : Int32) (v6 : Int32) (M : XM), κ167 v0 v1 v2 v3 v4 v5 v6 M = some q → AW l m_X9_copy 2 0 0 (x_Ri q) 0 0 167 [some (.ref v0), some (.int v1), some (.int v2), some (.int v3), some (.int v4), some (.int v5), some (.int v6)] [] M) (H : bd_X9_copy_167 κ167 v0 v1 v2 v3 v4 v5 v6 M = some q) : AW l m_X9_copy 2 0 0 (x_Ri q) 0 0 167 [some (.ref v0), some (.int v1), some (.int v2), some (.int v3), some (.int v4), some (.int v5), some (.int v6)] [] M := by
  unfold bd_X9_copy_167 at H
  refine x_iload 167 6 dX9_copy_167 rfl ?_
  refine x_iload 169 5 dX9_copy_169 rfl ?_
  refine x_icmp_ge 171 202 dX9_copy_171 (by decide) (fun c49 => ?_) (fun c49 => ?_)
  · replace H := x_ifp c49 H
    refine x_iconst 202 (0 : Int32) dX9_copy_202 (by decide) ?_
    refine x_istore 203 6 [some (.ref v0), some (.int v1), some (.int v2), some (.int v3), some (.int v4), some (.int v5), some (.int (0 : Int32))] dX9_copy_203 rfl (Nat.le_of_ble_eq_true rfl) rfl ?_
    exact x_wk (le_s (le_n (le_s (le_n (le_s (le_s (le_s le_0))))))) (t_X9_copy_205 l _ _ _ _ _ _ _ H)
  · replace H := x_ifn c49 H
    refine x_aload_n 174 0 dX9_copy_174 rfl rfl ?_
    obtain ⟨h61, H⟩ := x_ckp H
    refine x_getf 175 66 9 21 (.ref (x_r M v0 21)) dX9_copy_175 lk_1051 (by decide) (by decide) rfl (fun _ => rfl) h61 ?_
    refine x_iload 178 6 dX9_copy_178 rfl ?_
    refine x_aload_n 180 0 dX9_copy_180 rfl rfl ?_
    refine x_getf 181 62 9 20 (.ref (x_r M v0 20)) dX9_copy_181 lk_1050 (by decide) (by decide) rfl (fun _ => rfl) h61 ?_
    refine x_sipush 184 (160 : Int32) dX9_copy_184 (by decide) ?_
    refine x_iload_n 187 1 dX9_copy_187 rfl rfl ?_
    refine x_imul 188 dX9_copy_188 ?_
    refine x_iload_n 189 3 dX9_copy_189 rfl rfl ?_
    refine x_iadd 190 dX9_copy_190 ?_
    refine x_iload 191 6 dX9_copy_191 rfl ?_
    refine x_iadd 193 dX9_copy_193 ?_
    obtain ⟨h62, H⟩ := x_ckp H
    refine x_lald 194 dX9_copy_194 h62 ?_
    obtain ⟨h63, H⟩ := x_ckp H
    obtain ⟨M64, w65, H⟩ := x_lt_of H
    have h66 : x_tag M64 v0 = 9 + 10 := by rw [w65]; exact h61
    have h67 : x_at M64 (x_r M v0 20) 2 ((((160 : Int32) * v1) + v3) + v6) = true := by rw [w65]; exact h62
    have h68 : x_tag M64 (x_r M v0 20) = 2 := by rw [w65]; exact (x_at_1 h62)
    have h69 : x_at M64 (x_r M v0 21) 2 v6 = true := by rw [w65]; exact h63
    have h70 : x_tag M64 (x_r M v0 21) = 2 := by rw [w65]; exact (x_at_1 h63)
    refine x_last' 195 dX9_copy_195 h63 w65 ?_
    refine x_iinc 196 6 (v6 + (1 : Int32)) [some (.ref v0), some (.int v1), some (.int v2), some (.int v3), some (.int v4), some (.int v5), some (.int (v6 + (1 : Int32)))] dX9_copy_196 rfl (congrArg (fun z : Int32 => v6 + z) (show Int32.ofInt (1) = (1 : Int32) by decide)) rfl (Nat.le_of_ble_eq_true rfl) rfl ?_
    refine x_goto 199 167 dX9_copy_199 (by decide) ?_
    exact hκ167 _ _ _ _ _ _ _ _ H

def lp_X9_copy_167 (n : Nat) : Nat → Int32 → Int32 → Int32 → Int32 → Int32 → Int32 → XM → Option (Int32 × XM) := x_rec (fun _ _ _ _ _ _ _ _ => none) (bd_X9_copy_167) n
theorem t_X9_copy_167 (l : Launch) {q : Int32 × XM} : ∀ (n : Nat) (v0 : Nat) (v1 : Int32) (v2 : Int32) (v3 : Int32) (v4 : Int32) (v5 : Int32) (v6 : Int32) (M : XM), lp_X9_copy_167 n v0 v1 v2 v3 v4 v5 v6 M = some q → AW l m_X9_copy 2 0 0 (x_Ri q) 0 0 167 [some (.ref v0), some (.int v1), some (.int v2), some (.int v3), some (.int v4), some (.int v5), some (.int v6)] [] M := by
  intro n
  induction n with
  | zero => intro v0 v1 v2 v3 v4 v5 v6 M H; cases H
  | succ n ih => intro v0 v1 v2 v3 v4 v5 v6 M H; exact tb_X9_copy_167 l ih H
def f_X9_copy_84 (v0 : Nat) (v1 : Int32) (v2 : Int32) (v3 : Int32) (v4 : Int32) (v5 : Int32) (M : XM) : Option (Int32 × XM) :=
  if x_tag M v0 = 9 + 10 then (if x_at M (x_r M v0 16) 1 v1 = true then (if (x_i M (x_r M v0 16) v1.toNatClampNeg) = 0 then (f_X9_copy_102 v0 M) else (if x_at M (x_r M v0 16) 1 v2 = true then (if (x_i M (x_r M v0 16) v2.toNatClampNeg) = 0 then (f_X9_copy_102 v0 M) else (if (0 : Int32) ≤ v5 then (if v3 < 0 then (f_X9_copy_157 v0 M) else (if v4 < 0 then (f_X9_copy_157 v0 M) else (if x_at M (x_r M v0 18) 1 v1 = true then (if ((x_i M (x_r M v0 18) v1.toNatClampNeg) - v5) < v3 then (f_X9_copy_157 v0 M) else (if x_at M (x_r M v0 18) 1 v2 = true then (if v4 ≤ ((x_i M (x_r M v0 18) v2.toNatClampNeg) - v5) then (lp_X9_copy_167 x_fuel v0 v1 v2 v3 v4 v5 (0 : Int32) M) else (f_X9_copy_157 v0 M)) else none)) else none))) else (x_bd (f_X9_no v0 (-4 : Int32) M) (fun r72 M71 => some (r72, M71))))) else none)) else none) else none
set_option maxRecDepth 20000 in
set_option maxHeartbeats 4000000 in
theorem t_X9_copy_84 (l : Launch) {v0 : Nat} {v1 : Int32} {v2 : Int32} {v3 : Int32} {v4 : Int32} {v5 : Int32} {M : XM} {q : Int32 × XM} (H : f_X9_copy_84 v0 v1 v2 v3 v4 v5 M = some q) : AW l m_X9_copy 2 0 0 (x_Ri q) 0 0 84 [some (.ref v0), some (.int v1), some (.int v2), some (.int v3), some (.int v4), some (.int v5), none] [] M := by
  unfold f_X9_copy_84 at H
  refine x_aload_n 84 0 dX9_copy_84 rfl rfl ?_
  obtain ⟨h29, H⟩ := x_ckp H
  refine x_getf 85 50 9 16 (.ref (x_r M v0 16)) dX9_copy_85 lk_1046 (by decide) (by decide) rfl (fun _ => rfl) h29 ?_
  refine x_iload_n 88 1 dX9_copy_88 rfl rfl ?_
  obtain ⟨h30, H⟩ := x_ckp H
  refine x_iald 89 dX9_copy_89 h30 ?_
  refine x_if_eq 90 102 dX9_copy_90 (by decide) (fun c31 => ?_) (fun c31 => ?_)
  · replace H := x_ifp c31 H
    exact x_wk (le_s (le_n (le_n (le_n (le_n (le_n (le_s le_0))))))) (t_X9_copy_102 l H)
  · replace H := x_ifn c31 H
    refine x_aload_n 93 0 dX9_copy_93 rfl rfl ?_
    refine x_getf 94 50 9 16 (.ref (x_r M v0 16)) dX9_copy_94 lk_1046 (by decide) (by decide) rfl (fun _ => rfl) h29 ?_
    refine x_iload_n 97 2 dX9_copy_97 rfl rfl ?_
    obtain ⟨h36, H⟩ := x_ckp H
    refine x_iald 98 dX9_copy_98 h36 ?_
    refine x_if_ne 99 109 dX9_copy_99 (by decide) (fun c37 => ?_) (fun c37 => ?_)
    · replace H := x_ifn c37 H
      refine x_iload 109 5 dX9_copy_109 rfl ?_
      refine x_if_ge 111 121 dX9_copy_111 (by decide) (fun c38 => ?_) (fun c38 => ?_)
      · replace H := x_ifp c38 H
        refine x_iload_n 121 3 dX9_copy_121 rfl rfl ?_
        refine x_if_lt 122 157 dX9_copy_122 (by decide) (fun c39 => ?_) (fun c39 => ?_)
        · replace H := x_ifp c39 H
          exact x_wk (le_s (le_n (le_n (le_n (le_n (le_n (le_s le_0))))))) (t_X9_copy_157 l H)
        · replace H := x_ifn c39 H
          refine x_iload 125 4 dX9_copy_125 rfl ?_
          refine x_if_lt 127 157 dX9_copy_127 (by decide) (fun c44 => ?_) (fun c44 => ?_)
          · replace H := x_ifp c44 H
            exact x_wk (le_s (le_n (le_n (le_n (le_n (le_n (le_s le_0))))))) (t_X9_copy_157 l H)
          · replace H := x_ifn c44 H
            refine x_iload_n 130 3 dX9_copy_130 rfl rfl ?_
            refine x_aload_n 131 0 dX9_copy_131 rfl rfl ?_
            refine x_getf 132 56 9 18 (.ref (x_r M v0 18)) dX9_copy_132 lk_1048 (by decide) (by decide) rfl (fun _ => rfl) h29 ?_
            refine x_iload_n 135 1 dX9_copy_135 rfl rfl ?_
            obtain ⟨h45, H⟩ := x_ckp H
            refine x_iald 136 dX9_copy_136 h45 ?_
            refine x_iload 137 5 dX9_copy_137 rfl ?_
            refine x_isub 139 dX9_copy_139 ?_
            refine x_icmp_gt 140 157 dX9_copy_140 (by decide) (fun c46 => ?_) (fun c46 => ?_)
            · replace H := x_ifp c46 H
              exact x_wk (le_s (le_n (le_n (le_n (le_n (le_n (le_s le_0))))))) (t_X9_copy_157 l H)
            · replace H := x_ifn c46 H
              refine x_iload 143 4 dX9_copy_143 rfl ?_
              refine x_aload_n 145 0 dX9_copy_145 rfl rfl ?_
              refine x_getf 146 56 9 18 (.ref (x_r M v0 18)) dX9_copy_146 lk_1048 (by decide) (by decide) rfl (fun _ => rfl) h29 ?_
              refine x_iload_n 149 2 dX9_copy_149 rfl rfl ?_
              obtain ⟨h47, H⟩ := x_ckp H
              refine x_iald 150 dX9_copy_150 h47 ?_
              refine x_iload 151 5 dX9_copy_151 rfl ?_
              refine x_isub 153 dX9_copy_153 ?_
              refine x_icmp_le 154 164 dX9_copy_154 (by decide) (fun c48 => ?_) (fun c48 => ?_)
              · replace H := x_ifp c48 H
                refine x_iconst 164 (0 : Int32) dX9_copy_164 (by decide) ?_
                refine x_istore 165 6 [some (.ref v0), some (.int v1), some (.int v2), some (.int v3), some (.int v4), some (.int v5), some (.int (0 : Int32))] dX9_copy_165 rfl (Nat.le_of_ble_eq_true rfl) rfl ?_
                exact t_X9_copy_167 l _ _ _ _ _ _ _ _ _ H
              · replace H := x_ifn c48 H
                exact x_wk (le_s (le_n (le_n (le_n (le_n (le_n (le_s le_0))))))) (t_X9_copy_157 l H)
      · replace H := x_ifn c38 H
        refine x_aload_n 114 0 dX9_copy_114 rfl rfl ?_
        refine x_bipush 115 (-4 : Int32) dX9_copy_115 (by decide) ?_
        obtain ⟨r72, M71, e73, H⟩ := x_bd_of H
        refine x_callV 117 100 9 [(.int (-4 : Int32))] [] dX9_copy_117 (ct_X9_no l e73) lk_1165 lk_1167 lk_37 (by decide) h29 lk_94 lk_1168 ⟨cn_X9_no, (by decide), by decide⟩ rfl (Nat.le_of_ble_eq_true rfl) (Nat.le_of_ble_eq_true rfl) (Nat.le_of_ble_eq_true rfl) (x_ri ?_)
        cases H
        exact x_iret 120 dX9_copy_120 .int rfl rfl (Nat.le_of_ble_eq_true rfl) (Nat.le_of_ble_eq_true rfl) ⟨rfl, rfl⟩
    · replace H := x_ifp c37 H
      exact x_wk (le_s (le_n (le_n (le_n (le_n (le_n (le_s le_0))))))) (t_X9_copy_102 l H)

def f_X9_copy_c10 (v0 : Nat) (v1 : Int32) (v2 : Int32) (v3 : Int32) (v4 : Int32) (v5 : Int32) (s0 : Int32) (M : XM) : Option (Int32 × XM) :=
  if s0 = 0 then (f_X9_copy_16 v0 M) else (if x_tag M v0 = 9 + 10 then (if x_at M (x_r M v0 16) 1 v1 = true then (if (x_i M (x_r M v0 16) v1.toNatClampNeg) = (2 : Int32) then (f_X9_copy_77 v0 M) else (if x_at M (x_r M v0 16) 1 v2 = true then (if (x_i M (x_r M v0 16) v2.toNatClampNeg) = (2 : Int32) then (f_X9_copy_77 v0 M) else (if (x_i M (x_r M v0 16) v1.toNatClampNeg) = (1 : Int32) then (if (x_i M (x_r M v0 16) v2.toNatClampNeg) = (1 : Int32) then (if x_at M (x_r M v0 17) 1 v1 = true then (if x_at M (x_r M v0 17) 1 v2 = true then (if (x_i M (x_r M v0 17) v1.toNatClampNeg) = (x_i M (x_r M v0 17) v2.toNatClampNeg) then (f_X9_copy_84 v0 v1 v2 v3 v4 v5 M) else (f_X9_copy_77 v0 M)) else none) else none) else (f_X9_copy_84 v0 v1 v2 v3 v4 v5 M)) else (f_X9_copy_84 v0 v1 v2 v3 v4 v5 M))) else none)) else none) else none)
set_option maxRecDepth 20000 in
set_option maxHeartbeats 4000000 in
theorem t_X9_copy_c10 (l : Launch) {v0 : Nat} {v1 : Int32} {v2 : Int32} {v3 : Int32} {v4 : Int32} {v5 : Int32} {s0 : Int32} {M : XM} {q : Int32 × XM} (H : f_X9_copy_c10 v0 v1 v2 v3 v4 v5 s0 M = some q) : AW l m_X9_copy 2 0 0 (x_Ri q) 0 0 13 [some (.ref v0), some (.int v1), some (.int v2), some (.int v3), some (.int v4), some (.int v5), none] [(.int s0)] M := by
  unfold f_X9_copy_c10 at H
  refine x_if_ne 13 22 dX9_copy_13 (by decide) (fun c14 => ?_) (fun c14 => ?_)
  · replace H := x_ifn c14 H
    refine x_aload_n 22 0 dX9_copy_22 rfl rfl ?_
    obtain ⟨h15, H⟩ := x_ckp H
    refine x_getf 23 50 9 16 (.ref (x_r M v0 16)) dX9_copy_23 lk_1046 (by decide) (by decide) rfl (fun _ => rfl) h15 ?_
    refine x_iload_n 26 1 dX9_copy_26 rfl rfl ?_
    obtain ⟨h16, H⟩ := x_ckp H
    refine x_iald 27 dX9_copy_27 h16 ?_
    refine x_iconst 28 (2 : Int32) dX9_copy_28 (by decide) ?_
    refine x_icmp_eq 29 77 dX9_copy_29 (by decide) (fun c17 => ?_) (fun c17 => ?_)
    · replace H := x_ifp c17 H
      exact x_wk (le_s (le_n (le_n (le_n (le_n (le_n (le_s le_0))))))) (t_X9_copy_77 l H)
    · replace H := x_ifn c17 H
      refine x_aload_n 32 0 dX9_copy_32 rfl rfl ?_
      refine x_getf 33 50 9 16 (.ref (x_r M v0 16)) dX9_copy_33 lk_1046 (by decide) (by decide) rfl (fun _ => rfl) h15 ?_
      refine x_iload_n 36 2 dX9_copy_36 rfl rfl ?_
      obtain ⟨h22, H⟩ := x_ckp H
      refine x_iald 37 dX9_copy_37 h22 ?_
      refine x_iconst 38 (2 : Int32) dX9_copy_38 (by decide) ?_
      refine x_icmp_eq 39 77 dX9_copy_39 (by decide) (fun c23 => ?_) (fun c23 => ?_)
      · replace H := x_ifp c23 H
        exact x_wk (le_s (le_n (le_n (le_n (le_n (le_n (le_s le_0))))))) (t_X9_copy_77 l H)
      · replace H := x_ifn c23 H
        refine x_aload_n 42 0 dX9_copy_42 rfl rfl ?_
        refine x_getf 43 50 9 16 (.ref (x_r M v0 16)) dX9_copy_43 lk_1046 (by decide) (by decide) rfl (fun _ => rfl) h15 ?_
        refine x_iload_n 46 1 dX9_copy_46 rfl rfl ?_
        refine x_iald 47 dX9_copy_47 h16 ?_
        refine x_iconst 48 (1 : Int32) dX9_copy_48 (by decide) ?_
        refine x_icmp_ne 49 84 dX9_copy_49 (by decide) (fun c24 => ?_) (fun c24 => ?_)
        · replace H := x_ifn c24 H
          exact t_X9_copy_84 l H
        · replace H := x_ifp c24 H
          refine x_aload_n 52 0 dX9_copy_52 rfl rfl ?_
          refine x_getf 53 50 9 16 (.ref (x_r M v0 16)) dX9_copy_53 lk_1046 (by decide) (by decide) rfl (fun _ => rfl) h15 ?_
          refine x_iload_n 56 2 dX9_copy_56 rfl rfl ?_
          refine x_iald 57 dX9_copy_57 h22 ?_
          refine x_iconst 58 (1 : Int32) dX9_copy_58 (by decide) ?_
          refine x_icmp_ne 59 84 dX9_copy_59 (by decide) (fun c25 => ?_) (fun c25 => ?_)
          · replace H := x_ifn c25 H
            exact t_X9_copy_84 l H
          · replace H := x_ifp c25 H
            refine x_aload_n 62 0 dX9_copy_62 rfl rfl ?_
            refine x_getf 63 53 9 17 (.ref (x_r M v0 17)) dX9_copy_63 lk_1047 (by decide) (by decide) rfl (fun _ => rfl) h15 ?_
            refine x_iload_n 66 1 dX9_copy_66 rfl rfl ?_
            obtain ⟨h26, H⟩ := x_ckp H
            refine x_iald 67 dX9_copy_67 h26 ?_
            refine x_aload_n 68 0 dX9_copy_68 rfl rfl ?_
            refine x_getf 69 53 9 17 (.ref (x_r M v0 17)) dX9_copy_69 lk_1047 (by decide) (by decide) rfl (fun _ => rfl) h15 ?_
            refine x_iload_n 72 2 dX9_copy_72 rfl rfl ?_
            obtain ⟨h27, H⟩ := x_ckp H
            refine x_iald 73 dX9_copy_73 h27 ?_
            refine x_icmp_eq 74 84 dX9_copy_74 (by decide) (fun c28 => ?_) (fun c28 => ?_)
            · replace H := x_ifp c28 H
              exact t_X9_copy_84 l H
            · replace H := x_ifn c28 H
              exact x_wk (le_s (le_n (le_n (le_n (le_n (le_n (le_s le_0))))))) (t_X9_copy_77 l H)
  · replace H := x_ifp c14 H
    exact x_wk (le_s (le_n (le_n (le_n (le_n (le_n (le_s le_0))))))) (t_X9_copy_16 l H)

def f_X9_copy_c2 (v0 : Nat) (v1 : Int32) (v2 : Int32) (v3 : Int32) (v4 : Int32) (v5 : Int32) (s0 : Int32) (M : XM) : Option (Int32 × XM) :=
  if s0 = 0 then (f_X9_copy_16 v0 M) else (if x_tag M v0 = 9 + 10 then (x_bd (f_X9_isShelf v0 v2 M) (f_X9_copy_c10 v0 v1 v2 v3 v4 v5)) else none)
set_option maxRecDepth 20000 in
set_option maxHeartbeats 4000000 in
theorem t_X9_copy_c2 (l : Launch) {v0 : Nat} {v1 : Int32} {v2 : Int32} {v3 : Int32} {v4 : Int32} {v5 : Int32} {s0 : Int32} {M : XM} {q : Int32 × XM} (H : f_X9_copy_c2 v0 v1 v2 v3 v4 v5 s0 M = some q) : AW l m_X9_copy 2 0 0 (x_Ri q) 0 0 5 [some (.ref v0), some (.int v1), some (.int v2), some (.int v3), some (.int v4), some (.int v5), none] [(.int s0)] M := by
  unfold f_X9_copy_c2 at H
  refine x_if_eq 5 16 dX9_copy_5 (by decide) (fun c5 => ?_) (fun c5 => ?_)
  · replace H := x_ifp c5 H
    exact x_wk (le_s (le_n (le_n (le_n (le_n (le_n (le_s le_0))))))) (t_X9_copy_16 l H)
  · replace H := x_ifn c5 H
    refine x_aload_n 8 0 dX9_copy_8 rfl rfl ?_
    refine x_iload_n 9 2 dX9_copy_9 rfl rfl ?_
    obtain ⟨h10, H⟩ := x_ckp H
    obtain ⟨r12, M11, e13, H⟩ := x_bd_of H
    refine x_callV 10 96 9 [(.int v2)] [] dX9_copy_10 (ct_X9_isShelf l e13) lk_1161 lk_1163 lk_36 (by decide) h10 lk_94 lk_1164 ⟨cn_X9_isShelf, (by decide), by decide⟩ rfl (Nat.le_of_ble_eq_true rfl) (Nat.le_of_ble_eq_true rfl) (Nat.le_of_ble_eq_true rfl) (x_ri ?_)
    exact t_X9_copy_c10 l H

def f_X9_copy (v0 : Nat) (v1 : Int32) (v2 : Int32) (v3 : Int32) (v4 : Int32) (v5 : Int32) (M : XM) : Option (Int32 × XM) :=
  if x_tag M v0 = 9 + 10 then (x_bd (f_X9_isShelf v0 v1 M) (f_X9_copy_c2 v0 v1 v2 v3 v4 v5)) else none
set_option maxRecDepth 20000 in
set_option maxHeartbeats 4000000 in
theorem t_X9_copy (l : Launch) {v0 : Nat} {v1 : Int32} {v2 : Int32} {v3 : Int32} {v4 : Int32} {v5 : Int32} {M : XM} {q : Int32 × XM} (H : f_X9_copy v0 v1 v2 v3 v4 v5 M = some q) : AW l m_X9_copy 2 0 0 (x_Ri q) 0 0 0 [some (.ref v0), some (.int v1), some (.int v2), some (.int v3), some (.int v4), some (.int v5), none] [] M := by
  unfold f_X9_copy at H
  refine x_aload_n 0 0 dX9_copy_0 rfl rfl ?_
  refine x_iload_n 1 1 dX9_copy_1 rfl rfl ?_
  obtain ⟨h1, H⟩ := x_ckp H
  obtain ⟨r3, M2, e4, H⟩ := x_bd_of H
  refine x_callV 2 96 9 [(.int v1)] [] dX9_copy_2 (ct_X9_isShelf l e4) lk_1161 lk_1163 lk_36 (by decide) h1 lk_94 lk_1164 ⟨cn_X9_isShelf, (by decide), by decide⟩ rfl (Nat.le_of_ble_eq_true rfl) (Nat.le_of_ble_eq_true rfl) (Nat.le_of_ble_eq_true rfl) (x_ri ?_)
  exact t_X9_copy_c2 l H

theorem ct_X9_copy (l : Launch) {v0 : Nat} {v1 : Int32} {v2 : Int32} {v3 : Int32} {v4 : Int32} {v5 : Int32} {M : XM} {q : Int32 × XM} (H : f_X9_copy v0 v1 v2 v3 v4 v5 M = some q) : Ct l m_X9_copy 2 0 0 [(.ref v0), (.int v1), (.int v2), (.int v3), (.int v4), (.int v5)] M (x_Ri q) := x_met l m_X9_copy 2 0 0 [(.ref v0), (.int v1), (.int v2), (.int v3), (.int v4), (.int v5)] M (x_Ri q) _ rfl rfl (Nat.le_of_ble_eq_true rfl) (t_X9_copy l H)
abbrev m_X9_element : XU := (yX9_element, cX9_element, 3, (some .long))
theorem cn_X9_element : m_X9_element.1.cls ≠ "java/lang/invoke/MethodHandle" ∧ m_X9_element.1.cls ≠ "java/lang/invoke/VarHandle" ∧ (parseMethodDescriptor m_X9_element.1.desc).map (fun q => q.parameters.length) = some 2 := by decide +kernel
def f_X9_element_47 (M : XM) : Option (Int64 × XM) :=
  some ((0 : Int64), M)
set_option maxRecDepth 20000 in
set_option maxHeartbeats 4000000 in
theorem t_X9_element_47 (l : Launch) {M : XM} {q : Int64 × XM} (H : f_X9_element_47 M = some q) : AW l m_X9_element 2 0 0 (x_Rl q) 0 0 47 [none, none, none] [] M := by
  unfold f_X9_element_47 at H
  refine x_lconst 47 (0 : Int64) dX9_element_47 (by decide) ?_
  cases H
  exact x_lret 48 dX9_element_48 rfl (Nat.le_of_ble_eq_true rfl) (Nat.le_of_ble_eq_true rfl) ⟨rfl, rfl⟩

def f_X9_element_c2 (v0 : Nat) (v1 : Int32) (v2 : Int32) (s0 : Int32) (M : XM) : Option (Int64 × XM) :=
  if s0 = 0 then (f_X9_element_47 M) else (if x_tag M v0 = 9 + 10 then (if x_at M (x_r M v0 16) 1 v1 = true then (if (x_i M (x_r M v0 16) v1.toNatClampNeg) = (1 : Int32) then (if v2 < 0 then (f_X9_element_47 M) else (if x_at M (x_r M v0 18) 1 v1 = true then (if (x_i M (x_r M v0 18) v1.toNatClampNeg) ≤ v2 then (f_X9_element_47 M) else (if x_at M (x_r M v0 20) 2 (((160 : Int32) * v1) + v2) = true then (some ((x_j M (x_r M v0 20) (((160 : Int32) * v1) + v2).toNatClampNeg), M)) else none)) else none)) else (f_X9_element_47 M)) else none) else none)
set_option maxRecDepth 20000 in
set_option maxHeartbeats 4000000 in
theorem t_X9_element_c2 (l : Launch) {v0 : Nat} {v1 : Int32} {v2 : Int32} {s0 : Int32} {M : XM} {q : Int64 × XM} (H : f_X9_element_c2 v0 v1 v2 s0 M = some q) : AW l m_X9_element 2 0 0 (x_Rl q) 0 0 5 [some (.ref v0), some (.int v1), some (.int v2)] [(.int s0)] M := by
  unfold f_X9_element_c2 at H
  refine x_if_eq 5 47 dX9_element_5 (by decide) (fun c5 => ?_) (fun c5 => ?_)
  · replace H := x_ifp c5 H
    exact x_wk (le_n (le_n (le_n le_0))) (t_X9_element_47 l H)
  · replace H := x_ifn c5 H
    refine x_aload_n 8 0 dX9_element_8 rfl rfl ?_
    obtain ⟨h6, H⟩ := x_ckp H
    refine x_getf 9 50 9 16 (.ref (x_r M v0 16)) dX9_element_9 lk_1046 (by decide) (by decide) rfl (fun _ => rfl) h6 ?_
    refine x_iload_n 12 1 dX9_element_12 rfl rfl ?_
    obtain ⟨h7, H⟩ := x_ckp H
    refine x_iald 13 dX9_element_13 h7 ?_
    refine x_iconst 14 (1 : Int32) dX9_element_14 (by decide) ?_
    refine x_icmp_ne 15 47 dX9_element_15 (by decide) (fun c8 => ?_) (fun c8 => ?_)
    · replace H := x_ifn c8 H
      exact x_wk (le_n (le_n (le_n le_0))) (t_X9_element_47 l H)
    · replace H := x_ifp c8 H
      refine x_iload_n 18 2 dX9_element_18 rfl rfl ?_
      refine x_if_lt 19 47 dX9_element_19 (by decide) (fun c9 => ?_) (fun c9 => ?_)
      · replace H := x_ifp c9 H
        exact x_wk (le_n (le_n (le_n le_0))) (t_X9_element_47 l H)
      · replace H := x_ifn c9 H
        refine x_iload_n 22 2 dX9_element_22 rfl rfl ?_
        refine x_aload_n 23 0 dX9_element_23 rfl rfl ?_
        refine x_getf 24 56 9 18 (.ref (x_r M v0 18)) dX9_element_24 lk_1048 (by decide) (by decide) rfl (fun _ => rfl) h6 ?_
        refine x_iload_n 27 1 dX9_element_27 rfl rfl ?_
        obtain ⟨h10, H⟩ := x_ckp H
        refine x_iald 28 dX9_element_28 h10 ?_
        refine x_icmp_ge 29 47 dX9_element_29 (by decide) (fun c11 => ?_) (fun c11 => ?_)
        · replace H := x_ifp c11 H
          exact x_wk (le_n (le_n (le_n le_0))) (t_X9_element_47 l H)
        · replace H := x_ifn c11 H
          refine x_aload_n 32 0 dX9_element_32 rfl rfl ?_
          refine x_getf 33 62 9 20 (.ref (x_r M v0 20)) dX9_element_33 lk_1050 (by decide) (by decide) rfl (fun _ => rfl) h6 ?_
          refine x_sipush 36 (160 : Int32) dX9_element_36 (by decide) ?_
          refine x_iload_n 39 1 dX9_element_39 rfl rfl ?_
          refine x_imul 40 dX9_element_40 ?_
          refine x_iload_n 41 2 dX9_element_41 rfl rfl ?_
          refine x_iadd 42 dX9_element_42 ?_
          obtain ⟨h12, H⟩ := x_ckp H
          refine x_lald 43 dX9_element_43 h12 ?_
          refine x_goto 44 48 dX9_element_44 (by decide) ?_
          cases H
          exact x_lret 48 dX9_element_48 rfl (Nat.le_of_ble_eq_true rfl) (Nat.le_of_ble_eq_true rfl) ⟨rfl, rfl⟩

def f_X9_element (v0 : Nat) (v1 : Int32) (v2 : Int32) (M : XM) : Option (Int64 × XM) :=
  if x_tag M v0 = 9 + 10 then (x_bd (f_X9_isShelf v0 v1 M) (f_X9_element_c2 v0 v1 v2)) else none
set_option maxRecDepth 20000 in
set_option maxHeartbeats 4000000 in
theorem t_X9_element (l : Launch) {v0 : Nat} {v1 : Int32} {v2 : Int32} {M : XM} {q : Int64 × XM} (H : f_X9_element v0 v1 v2 M = some q) : AW l m_X9_element 2 0 0 (x_Rl q) 0 0 0 [some (.ref v0), some (.int v1), some (.int v2)] [] M := by
  unfold f_X9_element at H
  refine x_aload_n 0 0 dX9_element_0 rfl rfl ?_
  refine x_iload_n 1 1 dX9_element_1 rfl rfl ?_
  obtain ⟨h1, H⟩ := x_ckp H
  obtain ⟨r3, M2, e4, H⟩ := x_bd_of H
  refine x_callV 2 96 9 [(.int v1)] [] dX9_element_2 (ct_X9_isShelf l e4) lk_1161 lk_1163 lk_36 (by decide) h1 lk_94 lk_1164 ⟨cn_X9_isShelf, (by decide), by decide⟩ rfl (Nat.le_of_ble_eq_true rfl) (Nat.le_of_ble_eq_true rfl) (Nat.le_of_ble_eq_true rfl) (x_ri ?_)
  exact t_X9_element_c2 l H

theorem ct_X9_element (l : Launch) {v0 : Nat} {v1 : Int32} {v2 : Int32} {M : XM} {q : Int64 × XM} (H : f_X9_element v0 v1 v2 M = some q) : Ct l m_X9_element 2 0 0 [(.ref v0), (.int v1), (.int v2)] M (x_Rl q) := x_met l m_X9_element 2 0 0 [(.ref v0), (.int v1), (.int v2)] M (x_Rl q) _ rfl rfl (Nat.le_of_ble_eq_true rfl) (t_X9_element l H)
theorem lk_1188 : Cond.code yX9_isCounter cX9_isCounter 2 (some .boolean) ∈ x_TB := x_tb (k := 1188) (by decide +kernel) rfl
theorem lk_1185 : Cond.methodLink RX9 104 yX9_isCounter ∈ x_TB := x_tb (k := 1185) (by decide +kernel) rfl
theorem lk_38 : Cond.selects RX9 yX9_isCounter yX9_isCounter ∈ x_TB := x_tb (k := 38) (by decide +kernel) rfl
theorem lk_1187 : Cond.instanceMethod yX9_isCounter ∈ x_TB := x_tb (k := 1187) (by decide +kernel) rfl
abbrev m_X9_show : XU := (yX9_show, cX9_show, 3, (some .int))
theorem cn_X9_show : m_X9_show.1.cls ≠ "java/lang/invoke/MethodHandle" ∧ m_X9_show.1.cls ≠ "java/lang/invoke/VarHandle" ∧ (parseMethodDescriptor m_X9_show.1.desc).map (fun q => q.parameters.length) = some 2 := by decide +kernel
def f_X9_show_21 (v0 : Nat) (M : XM) : Option (Int32 × XM) :=
  if x_tag M v0 = 9 + 10 then (x_bd (f_X9_no v0 (-1 : Int32) M) (fun r8 M7 => some (r8, M7))) else none
set_option maxRecDepth 20000 in
set_option maxHeartbeats 4000000 in
theorem t_X9_show_21 (l : Launch) {v0 : Nat} {M : XM} {q : Int32 × XM} (H : f_X9_show_21 v0 M = some q) : AW l m_X9_show 2 0 0 (x_Ri q) 0 0 21 [some (.ref v0), none, none] [] M := by
  unfold f_X9_show_21 at H
  refine x_aload_n 21 0 dX9_show_21 rfl rfl ?_
  refine x_iconst 22 (-1 : Int32) dX9_show_22 (by decide) ?_
  obtain ⟨h6, H⟩ := x_ckp H
  obtain ⟨r8, M7, e9, H⟩ := x_bd_of H
  refine x_callV 23 100 9 [(.int (-1 : Int32))] [] dX9_show_23 (ct_X9_no l e9) lk_1165 lk_1167 lk_37 (by decide) h6 lk_94 lk_1168 ⟨cn_X9_no, (by decide), by decide⟩ rfl (Nat.le_of_ble_eq_true rfl) (Nat.le_of_ble_eq_true rfl) (Nat.le_of_ble_eq_true rfl) (x_ri ?_)
  cases H
  exact x_iret 26 dX9_show_26 .int rfl rfl (Nat.le_of_ble_eq_true rfl) (Nat.le_of_ble_eq_true rfl) ⟨rfl, rfl⟩

def f_X9_show_42 (v0 : Nat) (v1 : Int32) (v2 : Int32) (s0 : Int32) (s1 : Int32) (s2 : Nat) (M : XM) : Option (Int32 × XM) :=
  if x_at M s2 1 s1 = true then (x_lt (x_wi M s2 s1.toNatClampNeg s0) (fun M14 => if x_tag M14 v0 = 9 + 10 then (if x_at M14 (x_r M14 v0 19) 1 v1 = true then (x_lt (x_wi M14 (x_r M14 v0 19) v1.toNatClampNeg v2) (fun M20 => if v2 = (-1 : Int32) then (some ((0 : Int32), M20)) else (some ((1 : Int32), M20)))) else none) else none)) else none
set_option maxRecDepth 20000 in
set_option maxHeartbeats 4000000 in
theorem t_X9_show_42 (l : Launch) {v0 : Nat} {v1 : Int32} {v2 : Int32} {s0 : Int32} {s1 : Int32} {s2 : Nat} {M : XM} {q : Int32 × XM} (H : f_X9_show_42 v0 v1 v2 s0 s1 s2 M = some q) : AW l m_X9_show 2 0 0 (x_Ri q) 0 0 42 [some (.ref v0), some (.int v1), some (.int v2)] [(.int s0), (.int s1), (.ref s2)] M := by
  unfold f_X9_show_42 at H
  obtain ⟨h13, H⟩ := x_ckp H
  obtain ⟨M14, w15, H⟩ := x_lt_of H
  have h16 : x_at M14 s2 1 s1 = true := by rw [w15]; exact h13
  have h17 : x_tag M14 s2 = 1 := by rw [w15]; exact (x_at_1 h13)
  refine x_iast' 42 dX9_show_42 h13 w15 ?_
  refine x_aload_n 43 0 dX9_show_43 rfl rfl ?_
  obtain ⟨h18, H⟩ := x_ckp H
  refine x_getf 44 59 9 19 (.ref (x_r M14 v0 19)) dX9_show_44 lk_1049 (by decide) (by decide) rfl (fun _ => rfl) h18 ?_
  refine x_iload_n 47 1 dX9_show_47 rfl rfl ?_
  refine x_iload_n 48 2 dX9_show_48 rfl rfl ?_
  obtain ⟨h19, H⟩ := x_ckp H
  obtain ⟨M20, w21, H⟩ := x_lt_of H
  have h22 : x_at M20 s2 1 s1 = true := by rw [w21]; exact h16
  have h23 : x_tag M20 s2 = 1 := by rw [w21]; exact h17
  have h24 : x_tag M20 v0 = 9 + 10 := by rw [w21]; exact h18
  have h25 : x_at M20 (x_r M14 v0 19) 1 v1 = true := by rw [w21]; exact h19
  have h26 : x_tag M20 (x_r M14 v0 19) = 1 := by rw [w21]; exact (x_at_1 h19)
  refine x_iast' 49 dX9_show_49 h19 w21 ?_
  refine x_iload_n 50 2 dX9_show_50 rfl rfl ?_
  refine x_iconst 51 (-1 : Int32) dX9_show_51 (by decide) ?_
  refine x_icmp_ne 52 59 dX9_show_52 (by decide) (fun c27 => ?_) (fun c27 => ?_)
  · replace H := x_ifn c27 H
    refine x_iconst 59 (1 : Int32) dX9_show_59 (by decide) ?_
    cases H
    exact x_iret 60 dX9_show_60 .int rfl rfl (Nat.le_of_ble_eq_true rfl) (Nat.le_of_ble_eq_true rfl) ⟨rfl, rfl⟩
  · replace H := x_ifp c27 H
    refine x_iconst 55 (0 : Int32) dX9_show_55 (by decide) ?_
    refine x_goto 56 60 dX9_show_56 (by decide) ?_
    cases H
    exact x_iret 60 dX9_show_60 .int rfl rfl (Nat.le_of_ble_eq_true rfl) (Nat.le_of_ble_eq_true rfl) ⟨rfl, rfl⟩

def f_X9_show_27 (v0 : Nat) (v1 : Int32) (v2 : Int32) (M : XM) : Option (Int32 × XM) :=
  if x_tag M v0 = 9 + 10 then (if v2 = (-1 : Int32) then (f_X9_show_42 v0 v1 v2 (0 : Int32) v1 (x_r M v0 16) M) else (f_X9_show_42 v0 v1 v2 (2 : Int32) v1 (x_r M v0 16) M)) else none
set_option maxRecDepth 20000 in
set_option maxHeartbeats 4000000 in
theorem t_X9_show_27 (l : Launch) {v0 : Nat} {v1 : Int32} {v2 : Int32} {M : XM} {q : Int32 × XM} (H : f_X9_show_27 v0 v1 v2 M = some q) : AW l m_X9_show 2 0 0 (x_Ri q) 0 0 27 [some (.ref v0), some (.int v1), some (.int v2)] [] M := by
  unfold f_X9_show_27 at H
  refine x_aload_n 27 0 dX9_show_27 rfl rfl ?_
  obtain ⟨h11, H⟩ := x_ckp H
  refine x_getf 28 50 9 16 (.ref (x_r M v0 16)) dX9_show_28 lk_1046 (by decide) (by decide) rfl (fun _ => rfl) h11 ?_
  refine x_iload_n 31 1 dX9_show_31 rfl rfl ?_
  refine x_iload_n 32 2 dX9_show_32 rfl rfl ?_
  refine x_iconst 33 (-1 : Int32) dX9_show_33 (by decide) ?_
  refine x_icmp_ne 34 41 dX9_show_34 (by decide) (fun c12 => ?_) (fun c12 => ?_)
  · replace H := x_ifn c12 H
    refine x_iconst 41 (2 : Int32) dX9_show_41 (by decide) ?_
    exact t_X9_show_42 l H
  · replace H := x_ifp c12 H
    refine x_iconst 37 (0 : Int32) dX9_show_37 (by decide) ?_
    refine x_goto 38 42 dX9_show_38 (by decide) ?_
    exact t_X9_show_42 l H

def f_X9_show_c15 (v0 : Nat) (v1 : Int32) (v2 : Int32) (s0 : Int32) (M : XM) : Option (Int32 × XM) :=
  if s0 = 0 then (f_X9_show_21 v0 M) else (f_X9_show_27 v0 v1 v2 M)
set_option maxRecDepth 20000 in
set_option maxHeartbeats 4000000 in
theorem t_X9_show_c15 (l : Launch) {v0 : Nat} {v1 : Int32} {v2 : Int32} {s0 : Int32} {M : XM} {q : Int32 × XM} (H : f_X9_show_c15 v0 v1 v2 s0 M = some q) : AW l m_X9_show 2 0 0 (x_Ri q) 0 0 18 [some (.ref v0), some (.int v1), some (.int v2)] [(.int s0)] M := by
  unfold f_X9_show_c15 at H
  refine x_if_ne 18 27 dX9_show_18 (by decide) (fun c32 => ?_) (fun c32 => ?_)
  · replace H := x_ifn c32 H
    exact t_X9_show_27 l H
  · replace H := x_ifp c32 H
    exact x_wk (le_s (le_n (le_n le_0))) (t_X9_show_21 l H)

def f_X9_show_c2 (v0 : Nat) (v1 : Int32) (v2 : Int32) (s0 : Int32) (M : XM) : Option (Int32 × XM) :=
  if s0 = 0 then (f_X9_show_21 v0 M) else (if v2 = (-1 : Int32) then (f_X9_show_27 v0 v1 v2 M) else (if x_tag M v0 = 9 + 10 then (x_bd (f_X9_isCounter v0 v2 M) (f_X9_show_c15 v0 v1 v2)) else none))
set_option maxRecDepth 20000 in
set_option maxHeartbeats 4000000 in
theorem t_X9_show_c2 (l : Launch) {v0 : Nat} {v1 : Int32} {v2 : Int32} {s0 : Int32} {M : XM} {q : Int32 × XM} (H : f_X9_show_c2 v0 v1 v2 s0 M = some q) : AW l m_X9_show 2 0 0 (x_Ri q) 0 0 5 [some (.ref v0), some (.int v1), some (.int v2)] [(.int s0)] M := by
  unfold f_X9_show_c2 at H
  refine x_if_eq 5 21 dX9_show_5 (by decide) (fun c5 => ?_) (fun c5 => ?_)
  · replace H := x_ifp c5 H
    exact x_wk (le_s (le_n (le_n le_0))) (t_X9_show_21 l H)
  · replace H := x_ifn c5 H
    refine x_iload_n 8 2 dX9_show_8 rfl rfl ?_
    refine x_iconst 9 (-1 : Int32) dX9_show_9 (by decide) ?_
    refine x_icmp_eq 10 27 dX9_show_10 (by decide) (fun c10 => ?_) (fun c10 => ?_)
    · replace H := x_ifp c10 H
      exact t_X9_show_27 l H
    · replace H := x_ifn c10 H
      refine x_aload_n 13 0 dX9_show_13 rfl rfl ?_
      refine x_iload_n 14 2 dX9_show_14 rfl rfl ?_
      obtain ⟨h28, H⟩ := x_ckp H
      obtain ⟨r30, M29, e31, H⟩ := x_bd_of H
      refine x_callV 15 104 9 [(.int v2)] [] dX9_show_15 (ct_X9_isCounter l e31) lk_1185 lk_1187 lk_38 (by decide) h28 lk_94 lk_1188 ⟨cn_X9_isCounter, (by decide), by decide⟩ rfl (Nat.le_of_ble_eq_true rfl) (Nat.le_of_ble_eq_true rfl) (Nat.le_of_ble_eq_true rfl) (x_ri ?_)
      exact t_X9_show_c15 l H

def f_X9_show (v0 : Nat) (v1 : Int32) (v2 : Int32) (M : XM) : Option (Int32 × XM) :=
  if x_tag M v0 = 9 + 10 then (x_bd (f_X9_isShelf v0 v1 M) (f_X9_show_c2 v0 v1 v2)) else none
set_option maxRecDepth 20000 in
set_option maxHeartbeats 4000000 in
theorem t_X9_show (l : Launch) {v0 : Nat} {v1 : Int32} {v2 : Int32} {M : XM} {q : Int32 × XM} (H : f_X9_show v0 v1 v2 M = some q) : AW l m_X9_show 2 0 0 (x_Ri q) 0 0 0 [some (.ref v0), some (.int v1), some (.int v2)] [] M := by
  unfold f_X9_show at H
  refine x_aload_n 0 0 dX9_show_0 rfl rfl ?_
  refine x_iload_n 1 1 dX9_show_1 rfl rfl ?_
  obtain ⟨h1, H⟩ := x_ckp H
  obtain ⟨r3, M2, e4, H⟩ := x_bd_of H
  refine x_callV 2 96 9 [(.int v1)] [] dX9_show_2 (ct_X9_isShelf l e4) lk_1161 lk_1163 lk_36 (by decide) h1 lk_94 lk_1164 ⟨cn_X9_isShelf, (by decide), by decide⟩ rfl (Nat.le_of_ble_eq_true rfl) (Nat.le_of_ble_eq_true rfl) (Nat.le_of_ble_eq_true rfl) (x_ri ?_)
  exact t_X9_show_c2 l H

theorem ct_X9_show (l : Launch) {v0 : Nat} {v1 : Int32} {v2 : Int32} {M : XM} {q : Int32 × XM} (H : f_X9_show v0 v1 v2 M = some q) : Ct l m_X9_show 2 0 0 [(.ref v0), (.int v1), (.int v2)] M (x_Ri q) := x_met l m_X9_show 2 0 0 [(.ref v0), (.int v1), (.int v2)] M (x_Ri q) _ rfl rfl (Nat.le_of_ble_eq_true rfl) (t_X9_show l H)
abbrev m_X9_holds : XU := (yX9_holds, cX9_holds, 2, (some .int))
theorem cn_X9_holds : m_X9_holds.1.cls ≠ "java/lang/invoke/MethodHandle" ∧ m_X9_holds.1.cls ≠ "java/lang/invoke/VarHandle" ∧ (parseMethodDescriptor m_X9_holds.1.desc).map (fun q => q.parameters.length) = some 1 := by decide +kernel
def f_X9_holds_c2 (v0 : Nat) (v1 : Int32) (s0 : Int32) (M : XM) : Option (Int32 × XM) :=
  if s0 = 0 then (some ((-1 : Int32), M)) else (if x_tag M v0 = 9 + 10 then (if x_at M (x_r M v0 16) 1 v1 = true then (if (x_i M (x_r M v0 16) v1.toNatClampNeg) = 0 then (some ((-1 : Int32), M)) else (if (x_i M (x_r M v0 16) v1.toNatClampNeg) = (1 : Int32) then (if x_at M (x_r M v0 17) 1 v1 = true then (some (((100 : Int32) + (x_i M (x_r M v0 17) v1.toNatClampNeg)), M)) else none) else (if x_at M (x_r M v0 19) 1 v1 = true then (some ((x_i M (x_r M v0 19) v1.toNatClampNeg), M)) else none))) else none) else none)
set_option maxRecDepth 20000 in
set_option maxHeartbeats 4000000 in
theorem t_X9_holds_c2 (l : Launch) {v0 : Nat} {v1 : Int32} {s0 : Int32} {M : XM} {q : Int32 × XM} (H : f_X9_holds_c2 v0 v1 s0 M = some q) : AW l m_X9_holds 2 0 0 (x_Ri q) 0 0 5 [some (.ref v0), some (.int v1)] [(.int s0)] M := by
  unfold f_X9_holds_c2 at H
  refine x_if_eq 5 17 dX9_holds_5 (by decide) (fun c5 => ?_) (fun c5 => ?_)
  · replace H := x_ifp c5 H
    refine x_iconst 17 (-1 : Int32) dX9_holds_17 (by decide) ?_
    cases H
    exact x_iret 18 dX9_holds_18 .int rfl rfl (Nat.le_of_ble_eq_true rfl) (Nat.le_of_ble_eq_true rfl) ⟨rfl, rfl⟩
  · replace H := x_ifn c5 H
    refine x_aload_n 8 0 dX9_holds_8 rfl rfl ?_
    obtain ⟨h6, H⟩ := x_ckp H
    refine x_getf 9 50 9 16 (.ref (x_r M v0 16)) dX9_holds_9 lk_1046 (by decide) (by decide) rfl (fun _ => rfl) h6 ?_
    refine x_iload_n 12 1 dX9_holds_12 rfl rfl ?_
    obtain ⟨h7, H⟩ := x_ckp H
    refine x_iald 13 dX9_holds_13 h7 ?_
    refine x_if_ne 14 19 dX9_holds_14 (by decide) (fun c8 => ?_) (fun c8 => ?_)
    · replace H := x_ifn c8 H
      refine x_aload_n 19 0 dX9_holds_19 rfl rfl ?_
      refine x_getf 20 50 9 16 (.ref (x_r M v0 16)) dX9_holds_20 lk_1046 (by decide) (by decide) rfl (fun _ => rfl) h6 ?_
      refine x_iload_n 23 1 dX9_holds_23 rfl rfl ?_
      refine x_iald 24 dX9_holds_24 h7 ?_
      refine x_iconst 25 (1 : Int32) dX9_holds_25 (by decide) ?_
      refine x_icmp_ne 26 41 dX9_holds_26 (by decide) (fun c9 => ?_) (fun c9 => ?_)
      · replace H := x_ifn c9 H
        refine x_aload_n 41 0 dX9_holds_41 rfl rfl ?_
        refine x_getf 42 59 9 19 (.ref (x_r M v0 19)) dX9_holds_42 lk_1049 (by decide) (by decide) rfl (fun _ => rfl) h6 ?_
        refine x_iload_n 45 1 dX9_holds_45 rfl rfl ?_
        obtain ⟨h11, H⟩ := x_ckp H
        refine x_iald 46 dX9_holds_46 h11 ?_
        cases H
        exact x_iret 47 dX9_holds_47 .int rfl rfl (Nat.le_of_ble_eq_true rfl) (Nat.le_of_ble_eq_true rfl) ⟨rfl, rfl⟩
      · replace H := x_ifp c9 H
        refine x_bipush 29 (100 : Int32) dX9_holds_29 (by decide) ?_
        refine x_aload_n 31 0 dX9_holds_31 rfl rfl ?_
        refine x_getf 32 53 9 17 (.ref (x_r M v0 17)) dX9_holds_32 lk_1047 (by decide) (by decide) rfl (fun _ => rfl) h6 ?_
        refine x_iload_n 35 1 dX9_holds_35 rfl rfl ?_
        obtain ⟨h10, H⟩ := x_ckp H
        refine x_iald 36 dX9_holds_36 h10 ?_
        refine x_iadd 37 dX9_holds_37 ?_
        refine x_goto 38 47 dX9_holds_38 (by decide) ?_
        cases H
        exact x_iret 47 dX9_holds_47 .int rfl rfl (Nat.le_of_ble_eq_true rfl) (Nat.le_of_ble_eq_true rfl) ⟨rfl, rfl⟩
    · replace H := x_ifp c8 H
      refine x_iconst 17 (-1 : Int32) dX9_holds_17 (by decide) ?_
      cases H
      exact x_iret 18 dX9_holds_18 .int rfl rfl (Nat.le_of_ble_eq_true rfl) (Nat.le_of_ble_eq_true rfl) ⟨rfl, rfl⟩

def f_X9_holds (v0 : Nat) (v1 : Int32) (M : XM) : Option (Int32 × XM) :=
  if x_tag M v0 = 9 + 10 then (x_bd (f_X9_isShelf v0 v1 M) (f_X9_holds_c2 v0 v1)) else none
set_option maxRecDepth 20000 in
set_option maxHeartbeats 4000000 in
theorem t_X9_holds (l : Launch) {v0 : Nat} {v1 : Int32} {M : XM} {q : Int32 × XM} (H : f_X9_holds v0 v1 M = some q) : AW l m_X9_holds 2 0 0 (x_Ri q) 0 0 0 [some (.ref v0), some (.int v1)] [] M := by
  unfold f_X9_holds at H
  refine x_aload_n 0 0 dX9_holds_0 rfl rfl ?_
  refine x_iload_n 1 1 dX9_holds_1 rfl rfl ?_
  obtain ⟨h1, H⟩ := x_ckp H
  obtain ⟨r3, M2, e4, H⟩ := x_bd_of H
  refine x_callV 2 96 9 [(.int v1)] [] dX9_holds_2 (ct_X9_isShelf l e4) lk_1161 lk_1163 lk_36 (by decide) h1 lk_94 lk_1164 ⟨cn_X9_isShelf, (by decide), by decide⟩ rfl (Nat.le_of_ble_eq_true rfl) (Nat.le_of_ble_eq_true rfl) (Nat.le_of_ble_eq_true rfl) (x_ri ?_)
  exact t_X9_holds_c2 l H

theorem ct_X9_holds (l : Launch) {v0 : Nat} {v1 : Int32} {M : XM} {q : Int32 × XM} (H : f_X9_holds v0 v1 M = some q) : Ct l m_X9_holds 2 0 0 [(.ref v0), (.int v1)] M (x_Ri q) := x_met l m_X9_holds 2 0 0 [(.ref v0), (.int v1)] M (x_Ri q) _ rfl rfl (Nat.le_of_ble_eq_true rfl) (t_X9_holds l H)
abbrev m_X9_says : XU := (yX9_says, cX9_says, 6, (some .int))
theorem cn_X9_says : m_X9_says.1.cls ≠ "java/lang/invoke/MethodHandle" ∧ m_X9_says.1.cls ≠ "java/lang/invoke/VarHandle" ∧ (parseMethodDescriptor m_X9_says.1.desc).map (fun q => q.parameters.length) = some 2 := by decide +kernel
def f_X9_says_18 (v0 : Nat) (M : XM) : Option (Int32 × XM) :=
  if x_tag M v0 = 9 + 10 then (x_bd (f_X9_no v0 (-1 : Int32) M) (fun r8 M7 => some (r8, M7))) else none
set_option maxRecDepth 20000 in
set_option maxHeartbeats 4000000 in
theorem t_X9_says_18 (l : Launch) {v0 : Nat} {M : XM} {q : Int32 × XM} (H : f_X9_says_18 v0 M = some q) : AW l m_X9_says 2 0 0 (x_Ri q) 0 0 18 [some (.ref v0), none, none, none, none, none] [] M := by
  unfold f_X9_says_18 at H
  refine x_aload_n 18 0 dX9_says_18 rfl rfl ?_
  refine x_iconst 19 (-1 : Int32) dX9_says_19 (by decide) ?_
  obtain ⟨h6, H⟩ := x_ckp H
  obtain ⟨r8, M7, e9, H⟩ := x_bd_of H
  refine x_callV 20 100 9 [(.int (-1 : Int32))] [] dX9_says_20 (ct_X9_no l e9) lk_1165 lk_1167 lk_37 (by decide) h6 lk_94 lk_1168 ⟨cn_X9_no, (by decide), by decide⟩ rfl (Nat.le_of_ble_eq_true rfl) (Nat.le_of_ble_eq_true rfl) (Nat.le_of_ble_eq_true rfl) (x_ri ?_)
  cases H
  exact x_iret 23 dX9_says_23 .int rfl rfl (Nat.le_of_ble_eq_true rfl) (Nat.le_of_ble_eq_true rfl) ⟨rfl, rfl⟩

def f_X9_says_187 (v0 : Nat) (v3 : Int32) (M : XM) : Option (Int32 × XM) :=
  if x_tag M v0 = 9 + 10 then (if x_at M (x_r M v0 12) 1 v3 = true then (if (x_i M v0 2) = 0 then none else some (((x_i M (x_r M v0 12) v3.toNatClampNeg) - ((x_i M (x_r M v0 12) v3.toNatClampNeg) - (x_i M (x_r M v0 12) v3.toNatClampNeg) / (x_i M v0 2) * (x_i M v0 2))), M)) else none) else none
set_option maxRecDepth 20000 in
set_option maxHeartbeats 4000000 in
theorem t_X9_says_187 (l : Launch) {v0 : Nat} {v3 : Int32} {M : XM} {q : Int32 × XM} (H : f_X9_says_187 v0 v3 M = some q) : AW l m_X9_says 2 0 0 (x_Ri q) 0 0 187 [some (.ref v0), none, none, some (.int v3), none, none] [] M := by
  unfold f_X9_says_187 at H
  refine x_aload_n 187 0 dX9_says_187 rfl rfl ?_
  obtain ⟨h31, H⟩ := x_ckp H
  refine x_getf 188 38 9 12 (.ref (x_r M v0 12)) dX9_says_188 lk_1042 (by decide) (by decide) rfl (fun _ => rfl) h31 ?_
  refine x_iload_n 191 3 dX9_says_191 rfl rfl ?_
  obtain ⟨h32, H⟩ := x_ckp H
  refine x_iald 192 dX9_says_192 h32 ?_
  refine x_aload_n 193 0 dX9_says_193 rfl rfl ?_
  refine x_getf 194 38 9 12 (.ref (x_r M v0 12)) dX9_says_194 lk_1042 (by decide) (by decide) rfl (fun _ => rfl) h31 ?_
  refine x_iload_n 197 3 dX9_says_197 rfl rfl ?_
  refine x_iald 198 dX9_says_198 h32 ?_
  refine x_aload_n 199 0 dX9_says_199 rfl rfl ?_
  refine x_getf 200 13 9 2 (.int (x_i M v0 2)) dX9_says_200 lk_1032 (by decide) (by decide) rfl (fun _ => rfl) h31 ?_
  obtain ⟨h33, H⟩ := x_cnz H
  refine x_irem 203 dX9_says_203 h33 ?_
  refine x_isub 204 dX9_says_204 ?_
  cases H
  exact x_iret 205 dX9_says_205 .int rfl rfl (Nat.le_of_ble_eq_true rfl) (Nat.le_of_ble_eq_true rfl) ⟨rfl, rfl⟩

def f_X9_says_222 (v0 : Nat) (v3 : Int32) (M : XM) : Option (Int32 × XM) :=
  if x_tag M v0 = 9 + 10 then (if x_at M (x_r M v0 12) 1 v3 = true then (if x_at M (x_r M v0 13) 1 v3 = true then (some (((x_i M (x_r M v0 12) v3.toNatClampNeg) + (x_i M (x_r M v0 13) v3.toNatClampNeg)), M)) else none) else none) else none
set_option maxRecDepth 20000 in
set_option maxHeartbeats 4000000 in
theorem t_X9_says_222 (l : Launch) {v0 : Nat} {v3 : Int32} {M : XM} {q : Int32 × XM} (H : f_X9_says_222 v0 v3 M = some q) : AW l m_X9_says 2 0 0 (x_Ri q) 0 0 222 [some (.ref v0), none, none, some (.int v3), none, none] [] M := by
  unfold f_X9_says_222 at H
  refine x_aload_n 222 0 dX9_says_222 rfl rfl ?_
  obtain ⟨h41, H⟩ := x_ckp H
  refine x_getf 223 38 9 12 (.ref (x_r M v0 12)) dX9_says_223 lk_1042 (by decide) (by decide) rfl (fun _ => rfl) h41 ?_
  refine x_iload_n 226 3 dX9_says_226 rfl rfl ?_
  obtain ⟨h42, H⟩ := x_ckp H
  refine x_iald 227 dX9_says_227 h42 ?_
  refine x_aload_n 228 0 dX9_says_228 rfl rfl ?_
  refine x_getf 229 41 9 13 (.ref (x_r M v0 13)) dX9_says_229 lk_1043 (by decide) (by decide) rfl (fun _ => rfl) h41 ?_
  refine x_iload_n 232 3 dX9_says_232 rfl rfl ?_
  obtain ⟨h43, H⟩ := x_ckp H
  refine x_iald 233 dX9_says_233 h43 ?_
  refine x_iadd 234 dX9_says_234 ?_
  cases H
  exact x_iret 235 dX9_says_235 .int rfl rfl (Nat.le_of_ble_eq_true rfl) (Nat.le_of_ble_eq_true rfl) ⟨rfl, rfl⟩

def f_X9_says_135 (v0 : Nat) (v2 : Int32) (v3 : Int32) (M : XM) : Option (Int32 × XM) :=
  if v2 = (0 : Int32) then (if x_tag M v0 = 9 + 10 then (if x_at M (x_r M v0 12) 1 v3 = true then (some ((x_i M (x_r M v0 12) v3.toNatClampNeg), M)) else none) else none) else if v2 = (1 : Int32) then (f_X9_says_187 v0 v3 M) else if v2 = (4 : Int32) then (if x_tag M v0 = 9 + 10 then (if x_at M (x_r M v0 14) 1 v3 = true then (some ((x_i M (x_r M v0 14) v3.toNatClampNeg), M)) else none) else none) else if v2 = (5 : Int32) then (f_X9_says_187 v0 v3 M) else if v2 = (6 : Int32) then (if x_tag M v0 = 9 + 10 then (if x_at M (x_r M v0 12) 1 v3 = true then (some (((x_i M (x_r M v0 12) v3.toNatClampNeg) / (2 : Int32)), M)) else none) else none) else f_X9_says_222 v0 v3 M
set_option maxRecDepth 20000 in
set_option maxHeartbeats 4000000 in
theorem t_X9_says_135 (l : Launch) {v0 : Nat} {v2 : Int32} {v3 : Int32} {M : XM} {q : Int32 × XM} (H : f_X9_says_135 v0 v2 v3 M = some q) : AW l m_X9_says 2 0 0 (x_Ri q) 0 0 135 [some (.ref v0), none, some (.int v2), some (.int v3), none, none] [] M := by
  unfold f_X9_says_135 at H
  refine x_iload_n 135 2 dX9_says_135 rfl rfl ?_
  by_cases c27 : v2 = (0 : Int32)
  · replace H := x_ifp c27 H
    refine x_tableIn (off := 44) 136 180 dX9_says_136 (by rw [c27]; decide) (by rw [c27]; decide) (by rw [c27]; rfl) (by decide) ?_
    refine x_aload_n 180 0 dX9_says_180 rfl rfl ?_
    obtain ⟨h28, H⟩ := x_ckp H
    refine x_getf 181 38 9 12 (.ref (x_r M v0 12)) dX9_says_181 lk_1042 (by decide) (by decide) rfl (fun _ => rfl) h28 ?_
    refine x_iload_n 184 3 dX9_says_184 rfl rfl ?_
    obtain ⟨h29, H⟩ := x_ckp H
    refine x_iald 185 dX9_says_185 h29 ?_
    cases H
    exact x_iret 186 dX9_says_186 .int rfl rfl (Nat.le_of_ble_eq_true rfl) (Nat.le_of_ble_eq_true rfl) ⟨rfl, rfl⟩
  · replace H := x_ifn c27 H
    by_cases c30 : v2 = (1 : Int32)
    · replace H := x_ifp c30 H
      refine x_tableIn (off := 51) 136 187 dX9_says_136 (by rw [c30]; decide) (by rw [c30]; decide) (by rw [c30]; rfl) (by decide) ?_
      exact x_wk (le_s (le_s (le_n (le_s (le_s (le_s le_0)))))) (t_X9_says_187 l H)
    · replace H := x_ifn c30 H
      by_cases c34 : v2 = (4 : Int32)
      · replace H := x_ifp c34 H
        refine x_tableIn (off := 70) 136 206 dX9_says_136 (by rw [c34]; decide) (by rw [c34]; decide) (by rw [c34]; rfl) (by decide) ?_
        refine x_aload_n 206 0 dX9_says_206 rfl rfl ?_
        obtain ⟨h35, H⟩ := x_ckp H
        refine x_getf 207 44 9 14 (.ref (x_r M v0 14)) dX9_says_207 lk_1044 (by decide) (by decide) rfl (fun _ => rfl) h35 ?_
        refine x_iload_n 210 3 dX9_says_210 rfl rfl ?_
        obtain ⟨h36, H⟩ := x_ckp H
        refine x_iald 211 dX9_says_211 h36 ?_
        cases H
        exact x_iret 212 dX9_says_212 .int rfl rfl (Nat.le_of_ble_eq_true rfl) (Nat.le_of_ble_eq_true rfl) ⟨rfl, rfl⟩
      · replace H := x_ifn c34 H
        by_cases c37 : v2 = (5 : Int32)
        · replace H := x_ifp c37 H
          refine x_tableIn (off := 51) 136 187 dX9_says_136 (by rw [c37]; decide) (by rw [c37]; decide) (by rw [c37]; rfl) (by decide) ?_
          exact x_wk (le_s (le_s (le_n (le_s (le_s (le_s le_0)))))) (t_X9_says_187 l H)
        · replace H := x_ifn c37 H
          by_cases c38 : v2 = (6 : Int32)
          · replace H := x_ifp c38 H
            refine x_tableIn (off := 77) 136 213 dX9_says_136 (by rw [c38]; decide) (by rw [c38]; decide) (by rw [c38]; rfl) (by decide) ?_
            refine x_aload_n 213 0 dX9_says_213 rfl rfl ?_
            obtain ⟨h39, H⟩ := x_ckp H
            refine x_getf 214 38 9 12 (.ref (x_r M v0 12)) dX9_says_214 lk_1042 (by decide) (by decide) rfl (fun _ => rfl) h39 ?_
            refine x_iload_n 217 3 dX9_says_217 rfl rfl ?_
            obtain ⟨h40, H⟩ := x_ckp H
            refine x_iald 218 dX9_says_218 h40 ?_
            refine x_iconst 219 (2 : Int32) dX9_says_219 (by decide) ?_
            refine x_idiv 220 dX9_says_220 (by decide) ?_
            cases H
            exact x_iret 221 dX9_says_221 .int rfl rfl (Nat.le_of_ble_eq_true rfl) (Nat.le_of_ble_eq_true rfl) ⟨rfl, rfl⟩
          · replace H := x_ifn c38 H
            have hd0 : AW l m_X9_says 2 0 0 (x_Ri q) 0 0 222 [some (.ref v0), none, some (.int v2), some (.int v3), none, none] [] M := by
              skip
              exact x_wk (le_s (le_s (le_n (le_s (le_s (le_s le_0)))))) (t_X9_says_222 l H)
            by_cases c44 : v2 = (2 : Int32)
            · exact x_tableIn (off := 86) 136 222 dX9_says_136 (by rw [c44]; decide) (by rw [c44]; decide) (by rw [c44]; rfl) (by decide) hd0
            by_cases c45 : v2 = (3 : Int32)
            · exact x_tableIn (off := 86) 136 222 dX9_says_136 (by rw [c45]; decide) (by rw [c45]; decide) (by rw [c45]; rfl) (by decide) hd0
            exact x_tableOut 136 222 dX9_says_136 (by have n0 := lv_neT (a := 0) c27 (by decide); have n1 := lv_neT (a := 1) c30 (by decide); have n2 := lv_neT (a := 4) c34 (by decide); have n3 := lv_neT (a := 5) c37 (by decide); have n4 := lv_neT (a := 6) c38 (by decide); have n5 := lv_neT (a := 2) c44 (by decide); have n6 := lv_neT (a := 3) c45 (by decide); omega) (by decide) hd0

def f_X9_says_111 (v0 : Nat) (v2 : Int32) (v3 : Int32) (v4 : Int32) (s0 : Int32) (M : XM) : Option (Int32 × XM) :=
  if v2 = 0 then (f_X9_says_135 v0 v2 v3 M) else (if v2 = v4 then (f_X9_says_135 v0 v2 v3 M) else (if s0 = 0 then (if x_tag M v0 = 9 + 10 then (x_bd (f_X9_no v0 (-2 : Int32) M) (fun r50 M49 => some (r50, M49))) else none) else (f_X9_says_135 v0 v2 v3 M)))
set_option maxRecDepth 20000 in
set_option maxHeartbeats 4000000 in
theorem t_X9_says_111 (l : Launch) {v0 : Nat} {v2 : Int32} {v3 : Int32} {v4 : Int32} {s0 : Int32} {M : XM} {q : Int32 × XM} (H : f_X9_says_111 v0 v2 v3 v4 s0 M = some q) : AW l m_X9_says 2 0 0 (x_Ri q) 0 0 111 [some (.ref v0), none, some (.int v2), some (.int v3), some (.int v4), none] [(.int s0)] M := by
  unfold f_X9_says_111 at H
  refine x_istore 111 5 [some (.ref v0), none, some (.int v2), some (.int v3), some (.int v4), some (.int s0)] dX9_says_111 rfl (Nat.le_of_ble_eq_true rfl) rfl ?_
  refine x_iload_n 113 2 dX9_says_113 rfl rfl ?_
  refine x_if_eq 114 135 dX9_says_114 (by decide) (fun c26 => ?_) (fun c26 => ?_)
  · replace H := x_ifp c26 H
    exact x_wk (le_s (le_s (le_s (le_s (le_n (le_n le_0)))))) (t_X9_says_135 l H)
  · replace H := x_ifn c26 H
    refine x_iload_n 117 2 dX9_says_117 rfl rfl ?_
    refine x_iload 118 4 dX9_says_118 rfl ?_
    refine x_icmp_eq 120 135 dX9_says_120 (by decide) (fun c46 => ?_) (fun c46 => ?_)
    · replace H := x_ifp c46 H
      exact x_wk (le_s (le_s (le_s (le_s (le_n (le_n le_0)))))) (t_X9_says_135 l H)
    · replace H := x_ifn c46 H
      refine x_iload 123 5 dX9_says_123 rfl ?_
      refine x_if_ne 125 135 dX9_says_125 (by decide) (fun c47 => ?_) (fun c47 => ?_)
      · replace H := x_ifn c47 H
        exact x_wk (le_s (le_s (le_s (le_s (le_n (le_n le_0)))))) (t_X9_says_135 l H)
      · replace H := x_ifp c47 H
        refine x_aload_n 128 0 dX9_says_128 rfl rfl ?_
        refine x_bipush 129 (-2 : Int32) dX9_says_129 (by decide) ?_
        obtain ⟨h48, H⟩ := x_ckp H
        obtain ⟨r50, M49, e51, H⟩ := x_bd_of H
        refine x_callV 131 100 9 [(.int (-2 : Int32))] [] dX9_says_131 (ct_X9_no l e51) lk_1165 lk_1167 lk_37 (by decide) h48 lk_94 lk_1168 ⟨cn_X9_no, (by decide), by decide⟩ rfl (Nat.le_of_ble_eq_true rfl) (Nat.le_of_ble_eq_true rfl) (Nat.le_of_ble_eq_true rfl) (x_ri ?_)
        cases H
        exact x_iret 134 dX9_says_134 .int rfl rfl (Nat.le_of_ble_eq_true rfl) (Nat.le_of_ble_eq_true rfl) ⟨rfl, rfl⟩

def f_X9_says_106 (v0 : Nat) (v2 : Int32) (v3 : Int32) (v4 : Int32) (M : XM) : Option (Int32 × XM) :=
  f_X9_says_111 v0 v2 v3 v4 (1 : Int32) M
set_option maxRecDepth 20000 in
set_option maxHeartbeats 4000000 in
theorem t_X9_says_106 (l : Launch) {v0 : Nat} {v2 : Int32} {v3 : Int32} {v4 : Int32} {M : XM} {q : Int32 × XM} (H : f_X9_says_106 v0 v2 v3 v4 M = some q) : AW l m_X9_says 2 0 0 (x_Ri q) 0 0 106 [some (.ref v0), none, some (.int v2), some (.int v3), some (.int v4), none] [] M := by
  unfold f_X9_says_106 at H
  refine x_iconst 106 (1 : Int32) dX9_says_106 (by decide) ?_
  refine x_goto 107 111 dX9_says_107 (by decide) ?_
  exact t_X9_says_111 l H

def f_X9_says_110 (v0 : Nat) (v2 : Int32) (v3 : Int32) (v4 : Int32) (M : XM) : Option (Int32 × XM) :=
  f_X9_says_111 v0 v2 v3 v4 (0 : Int32) M
set_option maxRecDepth 20000 in
set_option maxHeartbeats 4000000 in
theorem t_X9_says_110 (l : Launch) {v0 : Nat} {v2 : Int32} {v3 : Int32} {v4 : Int32} {M : XM} {q : Int32 × XM} (H : f_X9_says_110 v0 v2 v3 v4 M = some q) : AW l m_X9_says 2 0 0 (x_Ri q) 0 0 110 [some (.ref v0), none, some (.int v2), some (.int v3), some (.int v4), none] [] M := by
  unfold f_X9_says_110 at H
  refine x_iconst 110 (0 : Int32) dX9_says_110 (by decide) ?_
  exact t_X9_says_111 l H

def f_X9_says_94 (v0 : Nat) (v2 : Int32) (v3 : Int32) (v4 : Int32) (M : XM) : Option (Int32 × XM) :=
  if v2 = (4 : Int32) then (if v4 = (6 : Int32) then (f_X9_says_106 v0 v2 v3 v4 M) else (f_X9_says_110 v0 v2 v3 v4 M)) else (f_X9_says_110 v0 v2 v3 v4 M)
set_option maxRecDepth 20000 in
set_option maxHeartbeats 4000000 in
theorem t_X9_says_94 (l : Launch) {v0 : Nat} {v2 : Int32} {v3 : Int32} {v4 : Int32} {M : XM} {q : Int32 × XM} (H : f_X9_says_94 v0 v2 v3 v4 M = some q) : AW l m_X9_says 2 0 0 (x_Ri q) 0 0 94 [some (.ref v0), none, some (.int v2), some (.int v3), some (.int v4), none] [] M := by
  unfold f_X9_says_94 at H
  refine x_iload_n 94 2 dX9_says_94 rfl rfl ?_
  refine x_iconst 95 (4 : Int32) dX9_says_95 (by decide) ?_
  refine x_icmp_ne 96 110 dX9_says_96 (by decide) (fun c54 => ?_) (fun c54 => ?_)
  · replace H := x_ifn c54 H
    exact t_X9_says_110 l H
  · replace H := x_ifp c54 H
    refine x_iload 99 4 dX9_says_99 rfl ?_
    refine x_bipush 101 (6 : Int32) dX9_says_101 (by decide) ?_
    refine x_icmp_ne 103 110 dX9_says_103 (by decide) (fun c55 => ?_) (fun c55 => ?_)
    · replace H := x_ifn c55 H
      exact t_X9_says_110 l H
    · replace H := x_ifp c55 H
      exact t_X9_says_106 l H

def f_X9_says_83 (v0 : Nat) (v2 : Int32) (v3 : Int32) (v4 : Int32) (M : XM) : Option (Int32 × XM) :=
  if v2 = (2 : Int32) then (if v4 = (3 : Int32) then (f_X9_says_106 v0 v2 v3 v4 M) else (f_X9_says_94 v0 v2 v3 v4 M)) else (f_X9_says_94 v0 v2 v3 v4 M)
set_option maxRecDepth 20000 in
set_option maxHeartbeats 4000000 in
theorem t_X9_says_83 (l : Launch) {v0 : Nat} {v2 : Int32} {v3 : Int32} {v4 : Int32} {M : XM} {q : Int32 × XM} (H : f_X9_says_83 v0 v2 v3 v4 M = some q) : AW l m_X9_says 2 0 0 (x_Ri q) 0 0 83 [some (.ref v0), none, some (.int v2), some (.int v3), some (.int v4), none] [] M := by
  unfold f_X9_says_83 at H
  refine x_iload_n 83 2 dX9_says_83 rfl rfl ?_
  refine x_iconst 84 (2 : Int32) dX9_says_84 (by decide) ?_
  refine x_icmp_ne 85 94 dX9_says_85 (by decide) (fun c52 => ?_) (fun c52 => ?_)
  · replace H := x_ifn c52 H
    exact t_X9_says_94 l H
  · replace H := x_ifp c52 H
    refine x_iload 88 4 dX9_says_88 rfl ?_
    refine x_iconst 90 (3 : Int32) dX9_says_90 (by decide) ?_
    refine x_icmp_eq 91 106 dX9_says_91 (by decide) (fun c53 => ?_) (fun c53 => ?_)
    · replace H := x_ifp c53 H
      exact t_X9_says_106 l H
    · replace H := x_ifn c53 H
      exact t_X9_says_94 l H

def f_X9_says_c2 (v0 : Nat) (v1 : Int32) (v2 : Int32) (s0 : Int32) (M : XM) : Option (Int32 × XM) :=
  if s0 = 0 then (f_X9_says_18 v0 M) else (if v2 < 0 then (f_X9_says_18 v0 M) else (if v2 ≤ (6 : Int32) then (if x_tag M v0 = 9 + 10 then (if x_at M (x_r M v0 16) 1 v1 = true then (if (x_i M (x_r M v0 16) v1.toNatClampNeg) = (1 : Int32) then (x_bd (f_X9_no v0 (-2 : Int32) M) (fun r16 M15 => some (r16, M15))) else (if (x_i M (x_r M v0 16) v1.toNatClampNeg) = 0 then (x_bd (f_X9_no v0 (-3 : Int32) M) (fun r20 M19 => some (r20, M19))) else (if x_at M (x_r M v0 19) 1 v1 = true then (if x_at M (x_r M v0 10) 1 (x_i M (x_r M v0 19) v1.toNatClampNeg) = true then (if v2 = (1 : Int32) then (if (x_i M (x_r M v0 10) (x_i M (x_r M v0 19) v1.toNatClampNeg).toNatClampNeg) = (5 : Int32) then (f_X9_says_106 v0 v2 (x_i M (x_r M v0 19) v1.toNatClampNeg) (x_i M (x_r M v0 10) (x_i M (x_r M v0 19) v1.toNatClampNeg).toNatClampNeg) M) else (f_X9_says_83 v0 v2 (x_i M (x_r M v0 19) v1.toNatClampNeg) (x_i M (x_r M v0 10) (x_i M (x_r M v0 19) v1.toNatClampNeg).toNatClampNeg) M)) else (f_X9_says_83 v0 v2 (x_i M (x_r M v0 19) v1.toNatClampNeg) (x_i M (x_r M v0 10) (x_i M (x_r M v0 19) v1.toNatClampNeg).toNatClampNeg) M)) else none) else none))) else none) else none) else (f_X9_says_18 v0 M)))
set_option maxRecDepth 20000 in
set_option maxHeartbeats 4000000 in
theorem t_X9_says_c2 (l : Launch) {v0 : Nat} {v1 : Int32} {v2 : Int32} {s0 : Int32} {M : XM} {q : Int32 × XM} (H : f_X9_says_c2 v0 v1 v2 s0 M = some q) : AW l m_X9_says 2 0 0 (x_Ri q) 0 0 5 [some (.ref v0), some (.int v1), some (.int v2), none, none, none] [(.int s0)] M := by
  unfold f_X9_says_c2 at H
  refine x_if_eq 5 18 dX9_says_5 (by decide) (fun c5 => ?_) (fun c5 => ?_)
  · replace H := x_ifp c5 H
    exact x_wk (le_s (le_n (le_n (le_s (le_s (le_s le_0)))))) (t_X9_says_18 l H)
  · replace H := x_ifn c5 H
    refine x_iload_n 8 2 dX9_says_8 rfl rfl ?_
    refine x_if_lt 9 18 dX9_says_9 (by decide) (fun c10 => ?_) (fun c10 => ?_)
    · replace H := x_ifp c10 H
      exact x_wk (le_s (le_n (le_n (le_s (le_s (le_s le_0)))))) (t_X9_says_18 l H)
    · replace H := x_ifn c10 H
      refine x_iload_n 12 2 dX9_says_12 rfl rfl ?_
      refine x_bipush 13 (6 : Int32) dX9_says_13 (by decide) ?_
      refine x_icmp_le 15 24 dX9_says_15 (by decide) (fun c11 => ?_) (fun c11 => ?_)
      · replace H := x_ifp c11 H
        refine x_aload_n 24 0 dX9_says_24 rfl rfl ?_
        obtain ⟨h12, H⟩ := x_ckp H
        refine x_getf 25 50 9 16 (.ref (x_r M v0 16)) dX9_says_25 lk_1046 (by decide) (by decide) rfl (fun _ => rfl) h12 ?_
        refine x_iload_n 28 1 dX9_says_28 rfl rfl ?_
        obtain ⟨h13, H⟩ := x_ckp H
        refine x_iald 29 dX9_says_29 h13 ?_
        refine x_iconst 30 (1 : Int32) dX9_says_30 (by decide) ?_
        refine x_icmp_ne 31 41 dX9_says_31 (by decide) (fun c14 => ?_) (fun c14 => ?_)
        · replace H := x_ifn c14 H
          refine x_aload_n 41 0 dX9_says_41 rfl rfl ?_
          refine x_getf 42 50 9 16 (.ref (x_r M v0 16)) dX9_says_42 lk_1046 (by decide) (by decide) rfl (fun _ => rfl) h12 ?_
          refine x_iload_n 45 1 dX9_says_45 rfl rfl ?_
          refine x_iald 46 dX9_says_46 h13 ?_
          refine x_if_ne 47 57 dX9_says_47 (by decide) (fun c18 => ?_) (fun c18 => ?_)
          · replace H := x_ifn c18 H
            refine x_aload_n 57 0 dX9_says_57 rfl rfl ?_
            refine x_getf 58 59 9 19 (.ref (x_r M v0 19)) dX9_says_58 lk_1049 (by decide) (by decide) rfl (fun _ => rfl) h12 ?_
            refine x_iload_n 61 1 dX9_says_61 rfl rfl ?_
            obtain ⟨h22, H⟩ := x_ckp H
            refine x_iald 62 dX9_says_62 h22 ?_
            refine x_istore_n 63 3 [some (.ref v0), some (.int v1), some (.int v2), some (.int (x_i M (x_r M v0 19) v1.toNatClampNeg)), none, none] dX9_says_63 rfl rfl (Nat.le_of_ble_eq_true rfl) rfl ?_
            refine x_aload_n 64 0 dX9_says_64 rfl rfl ?_
            refine x_getf 65 32 9 10 (.ref (x_r M v0 10)) dX9_says_65 lk_1040 (by decide) (by decide) rfl (fun _ => rfl) h12 ?_
            refine x_iload_n 68 3 dX9_says_68 rfl rfl ?_
            obtain ⟨h23, H⟩ := x_ckp H
            refine x_iald 69 dX9_says_69 h23 ?_
            refine x_istore 70 4 [some (.ref v0), some (.int v1), some (.int v2), some (.int (x_i M (x_r M v0 19) v1.toNatClampNeg)), some (.int (x_i M (x_r M v0 10) (x_i M (x_r M v0 19) v1.toNatClampNeg).toNatClampNeg)), none] dX9_says_70 rfl (Nat.le_of_ble_eq_true rfl) rfl ?_
            refine x_iload_n 72 2 dX9_says_72 rfl rfl ?_
            refine x_iconst 73 (1 : Int32) dX9_says_73 (by decide) ?_
            refine x_icmp_ne 74 83 dX9_says_74 (by decide) (fun c24 => ?_) (fun c24 => ?_)
            · replace H := x_ifn c24 H
              exact x_wk (le_s (le_n (le_s (le_s (le_s (le_s le_0)))))) (t_X9_says_83 l H)
            · replace H := x_ifp c24 H
              refine x_iload 77 4 dX9_says_77 rfl ?_
              refine x_iconst 79 (5 : Int32) dX9_says_79 (by decide) ?_
              refine x_icmp_eq 80 106 dX9_says_80 (by decide) (fun c25 => ?_) (fun c25 => ?_)
              · replace H := x_ifp c25 H
                exact x_wk (le_s (le_n (le_s (le_s (le_s (le_s le_0)))))) (t_X9_says_106 l H)
              · replace H := x_ifn c25 H
                exact x_wk (le_s (le_n (le_s (le_s (le_s (le_s le_0)))))) (t_X9_says_83 l H)
          · replace H := x_ifp c18 H
            refine x_aload_n 50 0 dX9_says_50 rfl rfl ?_
            refine x_bipush 51 (-3 : Int32) dX9_says_51 (by decide) ?_
            obtain ⟨r20, M19, e21, H⟩ := x_bd_of H
            refine x_callV 53 100 9 [(.int (-3 : Int32))] [] dX9_says_53 (ct_X9_no l e21) lk_1165 lk_1167 lk_37 (by decide) h12 lk_94 lk_1168 ⟨cn_X9_no, (by decide), by decide⟩ rfl (Nat.le_of_ble_eq_true rfl) (Nat.le_of_ble_eq_true rfl) (Nat.le_of_ble_eq_true rfl) (x_ri ?_)
            cases H
            exact x_iret 56 dX9_says_56 .int rfl rfl (Nat.le_of_ble_eq_true rfl) (Nat.le_of_ble_eq_true rfl) ⟨rfl, rfl⟩
        · replace H := x_ifp c14 H
          refine x_aload_n 34 0 dX9_says_34 rfl rfl ?_
          refine x_bipush 35 (-2 : Int32) dX9_says_35 (by decide) ?_
          obtain ⟨r16, M15, e17, H⟩ := x_bd_of H
          refine x_callV 37 100 9 [(.int (-2 : Int32))] [] dX9_says_37 (ct_X9_no l e17) lk_1165 lk_1167 lk_37 (by decide) h12 lk_94 lk_1168 ⟨cn_X9_no, (by decide), by decide⟩ rfl (Nat.le_of_ble_eq_true rfl) (Nat.le_of_ble_eq_true rfl) (Nat.le_of_ble_eq_true rfl) (x_ri ?_)
          cases H
          exact x_iret 40 dX9_says_40 .int rfl rfl (Nat.le_of_ble_eq_true rfl) (Nat.le_of_ble_eq_true rfl) ⟨rfl, rfl⟩
      · replace H := x_ifn c11 H
        exact x_wk (le_s (le_n (le_n (le_s (le_s (le_s le_0)))))) (t_X9_says_18 l H)

def f_X9_says (v0 : Nat) (v1 : Int32) (v2 : Int32) (M : XM) : Option (Int32 × XM) :=
  if x_tag M v0 = 9 + 10 then (x_bd (f_X9_isShelf v0 v1 M) (f_X9_says_c2 v0 v1 v2)) else none
set_option maxRecDepth 20000 in
set_option maxHeartbeats 4000000 in
theorem t_X9_says (l : Launch) {v0 : Nat} {v1 : Int32} {v2 : Int32} {M : XM} {q : Int32 × XM} (H : f_X9_says v0 v1 v2 M = some q) : AW l m_X9_says 2 0 0 (x_Ri q) 0 0 0 [some (.ref v0), some (.int v1), some (.int v2), none, none, none] [] M := by
  unfold f_X9_says at H
  refine x_aload_n 0 0 dX9_says_0 rfl rfl ?_
  refine x_iload_n 1 1 dX9_says_1 rfl rfl ?_
  obtain ⟨h1, H⟩ := x_ckp H
  obtain ⟨r3, M2, e4, H⟩ := x_bd_of H
  refine x_callV 2 96 9 [(.int v1)] [] dX9_says_2 (ct_X9_isShelf l e4) lk_1161 lk_1163 lk_36 (by decide) h1 lk_94 lk_1164 ⟨cn_X9_isShelf, (by decide), by decide⟩ rfl (Nat.le_of_ble_eq_true rfl) (Nat.le_of_ble_eq_true rfl) (Nat.le_of_ble_eq_true rfl) (x_ri ?_)
  exact t_X9_says_c2 l H

theorem ct_X9_says (l : Launch) {v0 : Nat} {v1 : Int32} {v2 : Int32} {M : XM} {q : Int32 × XM} (H : f_X9_says v0 v1 v2 M = some q) : Ct l m_X9_says 2 0 0 [(.ref v0), (.int v1), (.int v2)] M (x_Ri q) := x_met l m_X9_says 2 0 0 [(.ref v0), (.int v1), (.int v2)] M (x_Ri q) _ rfl rfl (Nat.le_of_ble_eq_true rfl) (t_X9_says l H)
abbrev m_X9_wanted : XU := (yX9_wanted, cX9_wanted, 2, (some .int))
theorem cn_X9_wanted : m_X9_wanted.1.cls ≠ "java/lang/invoke/MethodHandle" ∧ m_X9_wanted.1.cls ≠ "java/lang/invoke/VarHandle" ∧ (parseMethodDescriptor m_X9_wanted.1.desc).map (fun q => q.parameters.length) = some 1 := by decide +kernel
def f_X9_wanted_c2 (v0 : Nat) (v1 : Int32) (s0 : Int32) (M : XM) : Option (Int32 × XM) :=
  if s0 = 0 then (some ((-1 : Int32), M)) else (if x_tag M v0 = 9 + 10 then (if x_at M (x_r M v0 16) 1 v1 = true then (if (x_i M (x_r M v0 16) v1.toNatClampNeg) = (2 : Int32) then (some ((-2 : Int32), M)) else (if (x_i M (x_r M v0 16) v1.toNatClampNeg) = 0 then (some ((-3 : Int32), M)) else (some ((0 : Int32), M)))) else none) else none)
set_option maxRecDepth 20000 in
set_option maxHeartbeats 4000000 in
theorem t_X9_wanted_c2 (l : Launch) {v0 : Nat} {v1 : Int32} {s0 : Int32} {M : XM} {q : Int32 × XM} (H : f_X9_wanted_c2 v0 v1 s0 M = some q) : AW l m_X9_wanted 2 0 0 (x_Ri q) 0 0 5 [some (.ref v0), some (.int v1)] [(.int s0)] M := by
  unfold f_X9_wanted_c2 at H
  refine x_if_ne 5 12 dX9_wanted_5 (by decide) (fun c5 => ?_) (fun c5 => ?_)
  · replace H := x_ifn c5 H
    refine x_aload_n 12 0 dX9_wanted_12 rfl rfl ?_
    obtain ⟨h6, H⟩ := x_ckp H
    refine x_getf 13 50 9 16 (.ref (x_r M v0 16)) dX9_wanted_13 lk_1046 (by decide) (by decide) rfl (fun _ => rfl) h6 ?_
    refine x_iload_n 16 1 dX9_wanted_16 rfl rfl ?_
    obtain ⟨h7, H⟩ := x_ckp H
    refine x_iald 17 dX9_wanted_17 h7 ?_
    refine x_iconst 18 (2 : Int32) dX9_wanted_18 (by decide) ?_
    refine x_icmp_ne 19 27 dX9_wanted_19 (by decide) (fun c8 => ?_) (fun c8 => ?_)
    · replace H := x_ifn c8 H
      refine x_aload_n 27 0 dX9_wanted_27 rfl rfl ?_
      refine x_getf 28 50 9 16 (.ref (x_r M v0 16)) dX9_wanted_28 lk_1046 (by decide) (by decide) rfl (fun _ => rfl) h6 ?_
      refine x_iload_n 31 1 dX9_wanted_31 rfl rfl ?_
      refine x_iald 32 dX9_wanted_32 h7 ?_
      refine x_if_ne 33 41 dX9_wanted_33 (by decide) (fun c9 => ?_) (fun c9 => ?_)
      · replace H := x_ifn c9 H
        refine x_iconst 41 (0 : Int32) dX9_wanted_41 (by decide) ?_
        cases H
        exact x_iret 42 dX9_wanted_42 .int rfl rfl (Nat.le_of_ble_eq_true rfl) (Nat.le_of_ble_eq_true rfl) ⟨rfl, rfl⟩
      · replace H := x_ifp c9 H
        refine x_bipush 36 (-3 : Int32) dX9_wanted_36 (by decide) ?_
        refine x_goto 38 42 dX9_wanted_38 (by decide) ?_
        cases H
        exact x_iret 42 dX9_wanted_42 .int rfl rfl (Nat.le_of_ble_eq_true rfl) (Nat.le_of_ble_eq_true rfl) ⟨rfl, rfl⟩
    · replace H := x_ifp c8 H
      refine x_bipush 22 (-2 : Int32) dX9_wanted_22 (by decide) ?_
      refine x_goto 24 42 dX9_wanted_24 (by decide) ?_
      cases H
      exact x_iret 42 dX9_wanted_42 .int rfl rfl (Nat.le_of_ble_eq_true rfl) (Nat.le_of_ble_eq_true rfl) ⟨rfl, rfl⟩
  · replace H := x_ifp c5 H
    refine x_iconst 8 (-1 : Int32) dX9_wanted_8 (by decide) ?_
    refine x_goto 9 42 dX9_wanted_9 (by decide) ?_
    cases H
    exact x_iret 42 dX9_wanted_42 .int rfl rfl (Nat.le_of_ble_eq_true rfl) (Nat.le_of_ble_eq_true rfl) ⟨rfl, rfl⟩

def f_X9_wanted (v0 : Nat) (v1 : Int32) (M : XM) : Option (Int32 × XM) :=
  if x_tag M v0 = 9 + 10 then (x_bd (f_X9_isShelf v0 v1 M) (f_X9_wanted_c2 v0 v1)) else none
set_option maxRecDepth 20000 in
set_option maxHeartbeats 4000000 in
theorem t_X9_wanted (l : Launch) {v0 : Nat} {v1 : Int32} {M : XM} {q : Int32 × XM} (H : f_X9_wanted v0 v1 M = some q) : AW l m_X9_wanted 2 0 0 (x_Ri q) 0 0 0 [some (.ref v0), some (.int v1)] [] M := by
  unfold f_X9_wanted at H
  refine x_aload_n 0 0 dX9_wanted_0 rfl rfl ?_
  refine x_iload_n 1 1 dX9_wanted_1 rfl rfl ?_
  obtain ⟨h1, H⟩ := x_ckp H
  obtain ⟨r3, M2, e4, H⟩ := x_bd_of H
  refine x_callV 2 96 9 [(.int v1)] [] dX9_wanted_2 (ct_X9_isShelf l e4) lk_1161 lk_1163 lk_36 (by decide) h1 lk_94 lk_1164 ⟨cn_X9_isShelf, (by decide), by decide⟩ rfl (Nat.le_of_ble_eq_true rfl) (Nat.le_of_ble_eq_true rfl) (Nat.le_of_ble_eq_true rfl) (x_ri ?_)
  exact t_X9_wanted_c2 l H

theorem ct_X9_wanted (l : Launch) {v0 : Nat} {v1 : Int32} {M : XM} {q : Int32 × XM} (H : f_X9_wanted v0 v1 M = some q) : Ct l m_X9_wanted 2 0 0 [(.ref v0), (.int v1)] M (x_Ri q) := x_met l m_X9_wanted 2 0 0 [(.ref v0), (.int v1)] M (x_Ri q) _ rfl rfl (Nat.le_of_ble_eq_true rfl) (t_X9_wanted l H)
abbrev m_X9_intAt : XU := (yX9_intAt, cX9_intAt, 3, (some .int))
theorem cn_X9_intAt : m_X9_intAt.1.cls ≠ "java/lang/invoke/MethodHandle" ∧ m_X9_intAt.1.cls ≠ "java/lang/invoke/VarHandle" ∧ (parseMethodDescriptor m_X9_intAt.1.desc).map (fun q => q.parameters.length) = some 2 := by decide +kernel
def f_X9_intAt (v0 : Nat) (v1 : Int32) (v2 : Int32) (M : XM) : Option (Int32 × XM) :=
  if x_tag M v0 = 9 + 10 then (if x_at M (x_r M v0 20) 2 (((160 : Int32) * v1) + v2) = true then (some (((x_j M (x_r M v0 20) (((160 : Int32) * v1) + v2).toNatClampNeg).toInt32), M)) else none) else none
set_option maxRecDepth 20000 in
set_option maxHeartbeats 4000000 in
theorem t_X9_intAt (l : Launch) {v0 : Nat} {v1 : Int32} {v2 : Int32} {M : XM} {q : Int32 × XM} (H : f_X9_intAt v0 v1 v2 M = some q) : AW l m_X9_intAt 1 0 0 (x_Ri q) 0 0 0 [some (.ref v0), some (.int v1), some (.int v2)] [] M := by
  unfold f_X9_intAt at H
  refine x_aload_n 0 0 dX9_intAt_0 rfl rfl ?_
  obtain ⟨h1, H⟩ := x_ckp H
  refine x_getf 1 62 9 20 (.ref (x_r M v0 20)) dX9_intAt_1 lk_1050 (by decide) (by decide) rfl (fun _ => rfl) h1 ?_
  refine x_sipush 4 (160 : Int32) dX9_intAt_4 (by decide) ?_
  refine x_iload_n 7 1 dX9_intAt_7 rfl rfl ?_
  refine x_imul 8 dX9_intAt_8 ?_
  refine x_iload_n 9 2 dX9_intAt_9 rfl rfl ?_
  refine x_iadd 10 dX9_intAt_10 ?_
  obtain ⟨h2, H⟩ := x_ckp H
  refine x_lald 11 dX9_intAt_11 h2 ?_
  refine x_l2i 12 dX9_intAt_12 ?_
  cases H
  exact x_iret 13 dX9_intAt_13 .int rfl rfl (Nat.le_of_ble_eq_true rfl) (Nat.le_of_ble_eq_true rfl) ⟨rfl, rfl⟩

theorem ct_X9_intAt (l : Launch) {v0 : Nat} {v1 : Int32} {v2 : Int32} {M : XM} {q : Int32 × XM} (H : f_X9_intAt v0 v1 v2 M = some q) : Ct l m_X9_intAt 1 0 0 [(.ref v0), (.int v1), (.int v2)] M (x_Ri q) := x_met l m_X9_intAt 1 0 0 [(.ref v0), (.int v1), (.int v2)] M (x_Ri q) _ rfl rfl (Nat.le_of_ble_eq_true rfl) (t_X9_intAt l H)
theorem lk_1232 : Cond.code yX9_wanted cX9_wanted 2 (some .int) ∈ x_TB := x_tb (k := 1232) (by decide +kernel) rfl
theorem lk_1229 : Cond.methodLink RX9 107 yX9_wanted ∈ x_TB := x_tb (k := 1229) (by decide +kernel) rfl
theorem lk_42 : Cond.selects RX9 yX9_wanted yX9_wanted ∈ x_TB := x_tb (k := 42) (by decide +kernel) rfl
theorem lk_1231 : Cond.instanceMethod yX9_wanted ∈ x_TB := x_tb (k := 1231) (by decide +kernel) rfl
abbrev m_X9_bars : XU := (yX9_bars, cX9_bars, 4, (some .int))
theorem cn_X9_bars : m_X9_bars.1.cls ≠ "java/lang/invoke/MethodHandle" ∧ m_X9_bars.1.cls ≠ "java/lang/invoke/VarHandle" ∧ (parseMethodDescriptor m_X9_bars.1.desc).map (fun q => q.parameters.length) = some 2 := by decide +kernel
def f_X9_bars_c2 (v0 : Nat) (v1 : Int32) (v2 : Int32) (s0 : Int32) (M : XM) : Option (Int32 × XM) :=
  if s0 = 0 then (if (0 : Int32) ≤ v2 then (if x_tag M v0 = 9 + 10 then (if x_at M (x_r M v0 18) 1 v1 = true then (if v2 ≤ (x_i M (x_r M v0 18) v1.toNatClampNeg) then (some ((0 : Int32), M)) else (some ((-5 : Int32), M))) else none) else none) else (some ((-4 : Int32), M))) else (some (s0, M))
set_option maxRecDepth 20000 in
set_option maxHeartbeats 4000000 in
theorem t_X9_bars_c2 (l : Launch) {v0 : Nat} {v1 : Int32} {v2 : Int32} {s0 : Int32} {M : XM} {q : Int32 × XM} (H : f_X9_bars_c2 v0 v1 v2 s0 M = some q) : AW l m_X9_bars 3 0 0 (x_Ri q) 0 0 5 [some (.ref v0), some (.int v1), some (.int v2), none] [(.int s0)] M := by
  unfold f_X9_bars_c2 at H
  refine x_istore_n 5 3 [some (.ref v0), some (.int v1), some (.int v2), some (.int s0)] dX9_bars_5 rfl rfl (Nat.le_of_ble_eq_true rfl) rfl ?_
  refine x_iload_n 6 3 dX9_bars_6 rfl rfl ?_
  refine x_if_eq 7 12 dX9_bars_7 (by decide) (fun c5 => ?_) (fun c5 => ?_)
  · replace H := x_ifp c5 H
    refine x_iload_n 12 2 dX9_bars_12 rfl rfl ?_
    refine x_if_ge 13 21 dX9_bars_13 (by decide) (fun c6 => ?_) (fun c6 => ?_)
    · replace H := x_ifp c6 H
      refine x_iload_n 21 2 dX9_bars_21 rfl rfl ?_
      refine x_aload_n 22 0 dX9_bars_22 rfl rfl ?_
      obtain ⟨h7, H⟩ := x_ckp H
      refine x_getf 23 56 9 18 (.ref (x_r M v0 18)) dX9_bars_23 lk_1048 (by decide) (by decide) rfl (fun _ => rfl) h7 ?_
      refine x_iload_n 26 1 dX9_bars_26 rfl rfl ?_
      obtain ⟨h8, H⟩ := x_ckp H
      refine x_iald 27 dX9_bars_27 h8 ?_
      refine x_icmp_le 28 36 dX9_bars_28 (by decide) (fun c9 => ?_) (fun c9 => ?_)
      · replace H := x_ifp c9 H
        refine x_iconst 36 (0 : Int32) dX9_bars_36 (by decide) ?_
        cases H
        exact x_iret 37 dX9_bars_37 .int rfl rfl (Nat.le_of_ble_eq_true rfl) (Nat.le_of_ble_eq_true rfl) ⟨rfl, rfl⟩
      · replace H := x_ifn c9 H
        refine x_bipush 31 (-5 : Int32) dX9_bars_31 (by decide) ?_
        refine x_goto 33 37 dX9_bars_33 (by decide) ?_
        cases H
        exact x_iret 37 dX9_bars_37 .int rfl rfl (Nat.le_of_ble_eq_true rfl) (Nat.le_of_ble_eq_true rfl) ⟨rfl, rfl⟩
    · replace H := x_ifn c6 H
      refine x_bipush 16 (-4 : Int32) dX9_bars_16 (by decide) ?_
      refine x_goto 18 37 dX9_bars_18 (by decide) ?_
      cases H
      exact x_iret 37 dX9_bars_37 .int rfl rfl (Nat.le_of_ble_eq_true rfl) (Nat.le_of_ble_eq_true rfl) ⟨rfl, rfl⟩
  · replace H := x_ifn c5 H
    refine x_iload_n 10 3 dX9_bars_10 rfl rfl ?_
    cases H
    exact x_iret 11 dX9_bars_11 .int rfl rfl (Nat.le_of_ble_eq_true rfl) (Nat.le_of_ble_eq_true rfl) ⟨rfl, rfl⟩

def f_X9_bars (v0 : Nat) (v1 : Int32) (v2 : Int32) (M : XM) : Option (Int32 × XM) :=
  if x_tag M v0 = 9 + 10 then (x_bd (f_X9_wanted v0 v1 M) (f_X9_bars_c2 v0 v1 v2)) else none
set_option maxRecDepth 20000 in
set_option maxHeartbeats 4000000 in
theorem t_X9_bars (l : Launch) {v0 : Nat} {v1 : Int32} {v2 : Int32} {M : XM} {q : Int32 × XM} (H : f_X9_bars v0 v1 v2 M = some q) : AW l m_X9_bars 3 0 0 (x_Ri q) 0 0 0 [some (.ref v0), some (.int v1), some (.int v2), none] [] M := by
  unfold f_X9_bars at H
  refine x_aload_n 0 0 dX9_bars_0 rfl rfl ?_
  refine x_iload_n 1 1 dX9_bars_1 rfl rfl ?_
  obtain ⟨h1, H⟩ := x_ckp H
  obtain ⟨r3, M2, e4, H⟩ := x_bd_of H
  refine x_callV 2 107 9 [(.int v1)] [] dX9_bars_2 (ct_X9_wanted l e4) lk_1229 lk_1231 lk_42 (by decide) h1 lk_94 lk_1232 ⟨cn_X9_wanted, (by decide), by decide⟩ rfl (Nat.le_of_ble_eq_true rfl) (Nat.le_of_ble_eq_true rfl) (Nat.le_of_ble_eq_true rfl) (x_ri ?_)
  exact t_X9_bars_c2 l H

theorem ct_X9_bars (l : Launch) {v0 : Nat} {v1 : Int32} {v2 : Int32} {M : XM} {q : Int32 × XM} (H : f_X9_bars v0 v1 v2 M = some q) : Ct l m_X9_bars 3 0 0 [(.ref v0), (.int v1), (.int v2)] M (x_Ri q) := x_met l m_X9_bars 3 0 0 [(.ref v0), (.int v1), (.int v2)] M (x_Ri q) _ rfl rfl (Nat.le_of_ble_eq_true rfl) (t_X9_bars l H)
theorem lk_1301 : Cond.code yX9_intAt cX9_intAt 3 (some .int) ∈ x_TB := x_tb (k := 1301) (by decide +kernel) rfl
theorem lk_1298 : Cond.methodLink RX9 110 yX9_intAt ∈ x_TB := x_tb (k := 1298) (by decide +kernel) rfl
theorem lk_56 : Cond.selects RX9 yX9_intAt yX9_intAt ∈ x_TB := x_tb (k := 56) (by decide +kernel) rfl
theorem lk_1300 : Cond.instanceMethod yX9_intAt ∈ x_TB := x_tb (k := 1300) (by decide +kernel) rfl
abbrev m_X9_areSeconds : XU := (yX9_areSeconds, cX9_areSeconds, 4, (some .boolean))
theorem cn_X9_areSeconds : m_X9_areSeconds.1.cls ≠ "java/lang/invoke/MethodHandle" ∧ m_X9_areSeconds.1.cls ≠ "java/lang/invoke/VarHandle" ∧ (parseMethodDescriptor m_X9_areSeconds.1.desc).map (fun q => q.parameters.length) = some 2 := by decide +kernel
def f_X9_areSeconds_29 (κ2 : Nat → Int32 → Int32 → Int32 → XM → Option (Int32 × XM)) (v0 : Nat) (v1 : Int32) (v2 : Int32) (v3 : Int32) (s0 : Int32) (s1 : Int32) (M : XM) : Option (Int32 × XM) :=
  if s0 < s1 then (κ2 v0 v1 v2 (v3 + (1 : Int32)) M) else (some ((0 : Int32), M))
set_option maxRecDepth 20000 in
set_option maxHeartbeats 4000000 in
theorem t_X9_areSeconds_29 (l : Launch) {κ2 : Nat → Int32 → Int32 → Int32 → XM → Option (Int32 × XM)} {v0 : Nat} {v1 : Int32} {v2 : Int32} {v3 : Int32} {s0 : Int32} {s1 : Int32} {M : XM} {q : Int32 × XM} (hκ2 : ∀ (v0 : Nat) (v1 : Int32) (v2 : Int32) (v3 : Int32) (M : XM), κ2 v0 v1 v2 v3 M = some q → AW l m_X9_areSeconds 2 0 0 (x_Ri q) 0 0 2 [some (.ref v0), some (.int v1), some (.int v2), some (.int v3)] [] M) (H : f_X9_areSeconds_29 κ2 v0 v1 v2 v3 s0 s1 M = some q) : AW l m_X9_areSeconds 2 0 0 (x_Ri q) 0 0 29 [some (.ref v0), some (.int v1), some (.int v2), some (.int v3)] [(.int s0), (.int s1)] M := by
  unfold f_X9_areSeconds_29 at H
  refine x_icmp_gt 29 34 dX9_areSeconds_29 (by decide) (fun c7 => ?_) (fun c7 => ?_)
  · replace H := x_ifp c7 H
    refine x_iinc 34 3 (v3 + (1 : Int32)) [some (.ref v0), some (.int v1), some (.int v2), some (.int (v3 + (1 : Int32)))] dX9_areSeconds_34 rfl (congrArg (fun z : Int32 => v3 + z) (show Int32.ofInt (1) = (1 : Int32) by decide)) rfl (Nat.le_of_ble_eq_true rfl) rfl ?_
    refine x_goto 37 2 dX9_areSeconds_37 (by decide) ?_
    exact hκ2 _ _ _ _ _ H
  · replace H := x_ifn c7 H
    refine x_iconst 32 (0 : Int32) dX9_areSeconds_32 (by decide) ?_
    cases H
    exact x_iret 33 dX9_areSeconds_33 .boolean rfl rfl (Nat.le_of_ble_eq_true rfl) (Nat.le_of_ble_eq_true rfl) ⟨rfl, rfl⟩

def f_X9_areSeconds_c26 (κ2 : Nat → Int32 → Int32 → Int32 → XM → Option (Int32 × XM)) (v0 : Nat) (v1 : Int32) (v2 : Int32) (v3 : Int32) (s1 : Int32) (s0 : Int32) (M : XM) : Option (Int32 × XM) :=
  f_X9_areSeconds_29 κ2 v0 v1 v2 v3 s0 s1 M
set_option maxRecDepth 20000 in
set_option maxHeartbeats 4000000 in
theorem t_X9_areSeconds_c26 (l : Launch) {κ2 : Nat → Int32 → Int32 → Int32 → XM → Option (Int32 × XM)} {v0 : Nat} {v1 : Int32} {v2 : Int32} {v3 : Int32} {s1 : Int32} {s0 : Int32} {M : XM} {q : Int32 × XM} (hκ2 : ∀ (v0 : Nat) (v1 : Int32) (v2 : Int32) (v3 : Int32) (M : XM), κ2 v0 v1 v2 v3 M = some q → AW l m_X9_areSeconds 2 0 0 (x_Ri q) 0 0 2 [some (.ref v0), some (.int v1), some (.int v2), some (.int v3)] [] M) (H : f_X9_areSeconds_c26 κ2 v0 v1 v2 v3 s1 s0 M = some q) : AW l m_X9_areSeconds 2 0 0 (x_Ri q) 0 0 29 [some (.ref v0), some (.int v1), some (.int v2), some (.int v3)] [(.int s0), (.int s1)] M := by
  unfold f_X9_areSeconds_c26 at H
  exact t_X9_areSeconds_29 l hκ2 H

def f_X9_areSeconds_c10 (κ2 : Nat → Int32 → Int32 → Int32 → XM → Option (Int32 × XM)) (v0 : Nat) (v1 : Int32) (v2 : Int32) (v3 : Int32) (s0 : Int32) (M : XM) : Option (Int32 × XM) :=
  if v3 = 0 then (f_X9_areSeconds_29 κ2 v0 v1 v2 v3 (0 : Int32) s0 M) else (if x_tag M v0 = 9 + 10 then (x_bd (f_X9_intAt v0 v1 (v3 - (1 : Int32)) M) (f_X9_areSeconds_c26 κ2 v0 v1 v2 v3 s0)) else none)
set_option maxRecDepth 20000 in
set_option maxHeartbeats 4000000 in
theorem t_X9_areSeconds_c10 (l : Launch) {κ2 : Nat → Int32 → Int32 → Int32 → XM → Option (Int32 × XM)} {v0 : Nat} {v1 : Int32} {v2 : Int32} {v3 : Int32} {s0 : Int32} {M : XM} {q : Int32 × XM} (hκ2 : ∀ (v0 : Nat) (v1 : Int32) (v2 : Int32) (v3 : Int32) (M : XM), κ2 v0 v1 v2 v3 M = some q → AW l m_X9_areSeconds 2 0 0 (x_Ri q) 0 0 2 [some (.ref v0), some (.int v1), some (.int v2), some (.int v3)] [] M) (H : f_X9_areSeconds_c10 κ2 v0 v1 v2 v3 s0 M = some q) : AW l m_X9_areSeconds 2 0 0 (x_Ri q) 0 0 13 [some (.ref v0), some (.int v1), some (.int v2), some (.int v3)] [(.int s0)] M := by
  unfold f_X9_areSeconds_c10 at H
  refine x_iload_n 13 3 dX9_areSeconds_13 rfl rfl ?_
  refine x_if_ne 14 21 dX9_areSeconds_14 (by decide) (fun c6 => ?_) (fun c6 => ?_)
  · replace H := x_ifn c6 H
    refine x_aload_n 21 0 dX9_areSeconds_21 rfl rfl ?_
    refine x_iload_n 22 1 dX9_areSeconds_22 rfl rfl ?_
    refine x_iload_n 23 3 dX9_areSeconds_23 rfl rfl ?_
    refine x_iconst 24 (1 : Int32) dX9_areSeconds_24 (by decide) ?_
    refine x_isub 25 dX9_areSeconds_25 ?_
    obtain ⟨h8, H⟩ := x_ckp H
    obtain ⟨r10, M9, e11, H⟩ := x_bd_of H
    refine x_callV 26 110 9 [(.int v1), (.int (v3 - (1 : Int32)))] [(.int s0)] dX9_areSeconds_26 (ct_X9_intAt l e11) lk_1298 lk_1300 lk_56 (by decide) h8 lk_94 lk_1301 ⟨cn_X9_intAt, (by decide), by decide⟩ rfl (Nat.le_of_ble_eq_true rfl) (Nat.le_of_ble_eq_true rfl) (Nat.le_of_ble_eq_true rfl) (x_ri ?_)
    exact t_X9_areSeconds_c26 l hκ2 H
  · replace H := x_ifp c6 H
    refine x_iconst 17 (0 : Int32) dX9_areSeconds_17 (by decide) ?_
    refine x_goto 18 29 dX9_areSeconds_18 (by decide) ?_
    exact t_X9_areSeconds_29 l hκ2 H

def bd_X9_areSeconds_2 (κ2 : Nat → Int32 → Int32 → Int32 → XM → Option (Int32 × XM)) (v0 : Nat) (v1 : Int32) (v2 : Int32) (v3 : Int32) (M : XM) : Option (Int32 × XM) :=
  if v2 ≤ v3 then (some ((1 : Int32), M)) else (if x_tag M v0 = 9 + 10 then (x_bd (f_X9_intAt v0 v1 v3 M) (f_X9_areSeconds_c10 κ2 v0 v1 v2 v3)) else none)
set_option maxRecDepth 20000 in
set_option maxHeartbeats 4000000 in
theorem tb_X9_areSeconds_2 (l : Launch) {κ2 : Nat → Int32 → Int32 → Int32 → XM → Option (Int32 × XM)} {v0 : Nat} {v1 : Int32} {v2 : Int32} {v3 : Int32} {M : XM} {q : Int32 × XM} (hκ2 : ∀ (v0 : Nat) (v1 : Int32) (v2 : Int32) (v3 : Int32) (M : XM), κ2 v0 v1 v2 v3 M = some q → AW l m_X9_areSeconds 2 0 0 (x_Ri q) 0 0 2 [some (.ref v0), some (.int v1), some (.int v2), some (.int v3)] [] M) (H : bd_X9_areSeconds_2 κ2 v0 v1 v2 v3 M = some q) : AW l m_X9_areSeconds 2 0 0 (x_Ri q) 0 0 2 [some (.ref v0), some (.int v1), some (.int v2), some (.int v3)] [] M := by
  unfold bd_X9_areSeconds_2 at H
  refine x_iload_n 2 3 dX9_areSeconds_2 rfl rfl ?_
  refine x_iload_n 3 2 dX9_areSeconds_3 rfl rfl ?_
  refine x_icmp_ge 4 40 dX9_areSeconds_4 (by decide) (fun c1 => ?_) (fun c1 => ?_)
  · replace H := x_ifp c1 H
    refine x_iconst 40 (1 : Int32) dX9_areSeconds_40 (by decide) ?_
    cases H
    exact x_iret 41 dX9_areSeconds_41 .boolean rfl rfl (Nat.le_of_ble_eq_true rfl) (Nat.le_of_ble_eq_true rfl) ⟨rfl, rfl⟩
  · replace H := x_ifn c1 H
    refine x_aload_n 7 0 dX9_areSeconds_7 rfl rfl ?_
    refine x_iload_n 8 1 dX9_areSeconds_8 rfl rfl ?_
    refine x_iload_n 9 3 dX9_areSeconds_9 rfl rfl ?_
    obtain ⟨h2, H⟩ := x_ckp H
    obtain ⟨r4, M3, e5, H⟩ := x_bd_of H
    refine x_callV 10 110 9 [(.int v1), (.int v3)] [] dX9_areSeconds_10 (ct_X9_intAt l e5) lk_1298 lk_1300 lk_56 (by decide) h2 lk_94 lk_1301 ⟨cn_X9_intAt, (by decide), by decide⟩ rfl (Nat.le_of_ble_eq_true rfl) (Nat.le_of_ble_eq_true rfl) (Nat.le_of_ble_eq_true rfl) (x_ri ?_)
    exact t_X9_areSeconds_c10 l hκ2 H

def lp_X9_areSeconds_2 (n : Nat) : Nat → Int32 → Int32 → Int32 → XM → Option (Int32 × XM) := x_rec (fun _ _ _ _ _ => none) (bd_X9_areSeconds_2) n
theorem t_X9_areSeconds_2 (l : Launch) {q : Int32 × XM} : ∀ (n : Nat) (v0 : Nat) (v1 : Int32) (v2 : Int32) (v3 : Int32) (M : XM), lp_X9_areSeconds_2 n v0 v1 v2 v3 M = some q → AW l m_X9_areSeconds 2 0 0 (x_Ri q) 0 0 2 [some (.ref v0), some (.int v1), some (.int v2), some (.int v3)] [] M := by
  intro n
  induction n with
  | zero => intro v0 v1 v2 v3 M H; cases H
  | succ n ih => intro v0 v1 v2 v3 M H; exact tb_X9_areSeconds_2 l ih H
def f_X9_areSeconds (v0 : Nat) (v1 : Int32) (v2 : Int32) (M : XM) : Option (Int32 × XM) :=
  lp_X9_areSeconds_2 x_fuel v0 v1 v2 (0 : Int32) M
set_option maxRecDepth 20000 in
set_option maxHeartbeats 4000000 in
theorem t_X9_areSeconds (l : Launch) {v0 : Nat} {v1 : Int32} {v2 : Int32} {M : XM} {q : Int32 × XM} (H : f_X9_areSeconds v0 v1 v2 M = some q) : AW l m_X9_areSeconds 2 0 0 (x_Ri q) 0 0 0 [some (.ref v0), some (.int v1), some (.int v2), none] [] M := by
  unfold f_X9_areSeconds at H
  refine x_iconst 0 (0 : Int32) dX9_areSeconds_0 (by decide) ?_
  refine x_istore_n 1 3 [some (.ref v0), some (.int v1), some (.int v2), some (.int (0 : Int32))] dX9_areSeconds_1 rfl rfl (Nat.le_of_ble_eq_true rfl) rfl ?_
  exact t_X9_areSeconds_2 l _ _ _ _ _ _ H

theorem ct_X9_areSeconds (l : Launch) {v0 : Nat} {v1 : Int32} {v2 : Int32} {M : XM} {q : Int32 × XM} (H : f_X9_areSeconds v0 v1 v2 M = some q) : Ct l m_X9_areSeconds 2 0 0 [(.ref v0), (.int v1), (.int v2)] M (x_Ri q) := x_met l m_X9_areSeconds 2 0 0 [(.ref v0), (.int v1), (.int v2)] M (x_Ri q) _ rfl rfl (Nat.le_of_ble_eq_true rfl) (t_X9_areSeconds l H)
abbrev m_X9_adds : XU := (yX9_adds, cX9_adds, 3, (some .int))
theorem cn_X9_adds : m_X9_adds.1.cls ≠ "java/lang/invoke/MethodHandle" ∧ m_X9_adds.1.cls ≠ "java/lang/invoke/VarHandle" ∧ (parseMethodDescriptor m_X9_adds.1.desc).map (fun q => q.parameters.length) = some 2 := by decide +kernel
def f_X9_adds (v0 : Nat) (v1 : Int32) (v2 : Int32) (M : XM) : Option (Int32 × XM) :=
  if x_tag M v0 = 9 + 10 then (if x_at M (x_r M v0 10) 1 (x_i M v0 0) = true then (x_lt (x_wi M (x_r M v0 10) (x_i M v0 0).toNatClampNeg v1) (fun M3 => if x_at M3 (x_r M3 v0 11) 1 (x_i M3 v0 0) = true then (x_lt (x_wi M3 (x_r M3 v0 11) (x_i M3 v0 0).toNatClampNeg v2) (fun M9 => if x_at M9 (x_r M9 v0 12) 1 (x_i M9 v0 0) = true then (x_lt (x_wi M9 (x_r M9 v0 12) (x_i M9 v0 0).toNatClampNeg (0 : Int32)) (fun M17 => if x_at M17 (x_r M17 v0 13) 1 (x_i M17 v0 0) = true then (x_lt (x_wi M17 (x_r M17 v0 13) (x_i M17 v0 0).toNatClampNeg (0 : Int32)) (fun M27 => if x_at M27 (x_r M27 v0 14) 1 (x_i M27 v0 0) = true then (x_lt (x_wi M27 (x_r M27 v0 14) (x_i M27 v0 0).toNatClampNeg (0 : Int32)) (fun M39 => x_lt (x_wi M39 v0 0 ((x_i M39 v0 0) + (1 : Int32))) (fun M52 => some ((x_i M39 v0 0), M52)))) else none)) else none)) else none)) else none)) else none) else none
set_option maxRecDepth 20000 in
set_option maxHeartbeats 4000000 in
theorem t_X9_adds (l : Launch) {v0 : Nat} {v1 : Int32} {v2 : Int32} {M : XM} {q : Int32 × XM} (H : f_X9_adds v0 v1 v2 M = some q) : AW l m_X9_adds 1 0 0 (x_Ri q) 0 0 0 [some (.ref v0), some (.int v1), some (.int v2)] [] M := by
  unfold f_X9_adds at H
  refine x_aload_n 0 0 dX9_adds_0 rfl rfl ?_
  obtain ⟨h1, H⟩ := x_ckp H
  refine x_getf 1 32 9 10 (.ref (x_r M v0 10)) dX9_adds_1 lk_1040 (by decide) (by decide) rfl (fun _ => rfl) h1 ?_
  refine x_aload_n 4 0 dX9_adds_4 rfl rfl ?_
  refine x_getf 5 93 9 0 (.int (x_i M v0 0)) dX9_adds_5 lk_1030 (by decide) (by decide) rfl (fun _ => rfl) h1 ?_
  refine x_iload_n 8 1 dX9_adds_8 rfl rfl ?_
  obtain ⟨h2, H⟩ := x_ckp H
  obtain ⟨M3, w4, H⟩ := x_lt_of H
  have h5 : x_tag M3 v0 = 9 + 10 := by rw [w4]; exact h1
  have h6 : x_at M3 (x_r M v0 10) 1 (x_i M v0 0) = true := by rw [w4]; exact h2
  have h7 : x_tag M3 (x_r M v0 10) = 1 := by rw [w4]; exact (x_at_1 h2)
  refine x_iast' 9 dX9_adds_9 h2 w4 ?_
  refine x_aload_n 10 0 dX9_adds_10 rfl rfl ?_
  refine x_getf 11 35 9 11 (.ref (x_r M3 v0 11)) dX9_adds_11 lk_1041 (by decide) (by decide) rfl (fun _ => rfl) h5 ?_
  refine x_aload_n 14 0 dX9_adds_14 rfl rfl ?_
  refine x_getf 15 93 9 0 (.int (x_i M3 v0 0)) dX9_adds_15 lk_1030 (by decide) (by decide) rfl (fun _ => rfl) h5 ?_
  refine x_iload_n 18 2 dX9_adds_18 rfl rfl ?_
  obtain ⟨h8, H⟩ := x_ckp H
  obtain ⟨M9, w10, H⟩ := x_lt_of H
  have h11 : x_tag M9 v0 = 9 + 10 := by rw [w10]; exact h5
  have h12 : x_at M9 (x_r M v0 10) 1 (x_i M v0 0) = true := by rw [w10]; exact h6
  have h13 : x_tag M9 (x_r M v0 10) = 1 := by rw [w10]; exact h7
  have h14 : x_at M9 (x_r M3 v0 11) 1 (x_i M3 v0 0) = true := by rw [w10]; exact h8
  have h15 : x_tag M9 (x_r M3 v0 11) = 1 := by rw [w10]; exact (x_at_1 h8)
  refine x_iast' 19 dX9_adds_19 h8 w10 ?_
  refine x_aload_n 20 0 dX9_adds_20 rfl rfl ?_
  refine x_getf 21 38 9 12 (.ref (x_r M9 v0 12)) dX9_adds_21 lk_1042 (by decide) (by decide) rfl (fun _ => rfl) h11 ?_
  refine x_aload_n 24 0 dX9_adds_24 rfl rfl ?_
  refine x_getf 25 93 9 0 (.int (x_i M9 v0 0)) dX9_adds_25 lk_1030 (by decide) (by decide) rfl (fun _ => rfl) h11 ?_
  refine x_iconst 28 (0 : Int32) dX9_adds_28 (by decide) ?_
  obtain ⟨h16, H⟩ := x_ckp H
  obtain ⟨M17, w18, H⟩ := x_lt_of H
  have h19 : x_tag M17 v0 = 9 + 10 := by rw [w18]; exact h11
  have h20 : x_at M17 (x_r M v0 10) 1 (x_i M v0 0) = true := by rw [w18]; exact h12
  have h21 : x_tag M17 (x_r M v0 10) = 1 := by rw [w18]; exact h13
  have h22 : x_at M17 (x_r M3 v0 11) 1 (x_i M3 v0 0) = true := by rw [w18]; exact h14
  have h23 : x_tag M17 (x_r M3 v0 11) = 1 := by rw [w18]; exact h15
  have h24 : x_at M17 (x_r M9 v0 12) 1 (x_i M9 v0 0) = true := by rw [w18]; exact h16
  have h25 : x_tag M17 (x_r M9 v0 12) = 1 := by rw [w18]; exact (x_at_1 h16)
  refine x_iast' 29 dX9_adds_29 h16 w18 ?_
  refine x_aload_n 30 0 dX9_adds_30 rfl rfl ?_
  refine x_getf 31 41 9 13 (.ref (x_r M17 v0 13)) dX9_adds_31 lk_1043 (by decide) (by decide) rfl (fun _ => rfl) h19 ?_
  refine x_aload_n 34 0 dX9_adds_34 rfl rfl ?_
  refine x_getf 35 93 9 0 (.int (x_i M17 v0 0)) dX9_adds_35 lk_1030 (by decide) (by decide) rfl (fun _ => rfl) h19 ?_
  refine x_iconst 38 (0 : Int32) dX9_adds_38 (by decide) ?_
  obtain ⟨h26, H⟩ := x_ckp H
  obtain ⟨M27, w28, H⟩ := x_lt_of H
  have h29 : x_tag M27 v0 = 9 + 10 := by rw [w28]; exact h19
  have h30 : x_at M27 (x_r M v0 10) 1 (x_i M v0 0) = true := by rw [w28]; exact h20
  have h31 : x_tag M27 (x_r M v0 10) = 1 := by rw [w28]; exact h21
  have h32 : x_at M27 (x_r M3 v0 11) 1 (x_i M3 v0 0) = true := by rw [w28]; exact h22
  have h33 : x_tag M27 (x_r M3 v0 11) = 1 := by rw [w28]; exact h23
  have h34 : x_at M27 (x_r M9 v0 12) 1 (x_i M9 v0 0) = true := by rw [w28]; exact h24
  have h35 : x_tag M27 (x_r M9 v0 12) = 1 := by rw [w28]; exact h25
  have h36 : x_at M27 (x_r M17 v0 13) 1 (x_i M17 v0 0) = true := by rw [w28]; exact h26
  have h37 : x_tag M27 (x_r M17 v0 13) = 1 := by rw [w28]; exact (x_at_1 h26)
  refine x_iast' 39 dX9_adds_39 h26 w28 ?_
  refine x_aload_n 40 0 dX9_adds_40 rfl rfl ?_
  refine x_getf 41 44 9 14 (.ref (x_r M27 v0 14)) dX9_adds_41 lk_1044 (by decide) (by decide) rfl (fun _ => rfl) h29 ?_
  refine x_aload_n 44 0 dX9_adds_44 rfl rfl ?_
  refine x_getf 45 93 9 0 (.int (x_i M27 v0 0)) dX9_adds_45 lk_1030 (by decide) (by decide) rfl (fun _ => rfl) h29 ?_
  refine x_iconst 48 (0 : Int32) dX9_adds_48 (by decide) ?_
  obtain ⟨h38, H⟩ := x_ckp H
  obtain ⟨M39, w40, H⟩ := x_lt_of H
  have h41 : x_tag M39 v0 = 9 + 10 := by rw [w40]; exact h29
  have h42 : x_at M39 (x_r M v0 10) 1 (x_i M v0 0) = true := by rw [w40]; exact h30
  have h43 : x_tag M39 (x_r M v0 10) = 1 := by rw [w40]; exact h31
  have h44 : x_at M39 (x_r M3 v0 11) 1 (x_i M3 v0 0) = true := by rw [w40]; exact h32
  have h45 : x_tag M39 (x_r M3 v0 11) = 1 := by rw [w40]; exact h33
  have h46 : x_at M39 (x_r M9 v0 12) 1 (x_i M9 v0 0) = true := by rw [w40]; exact h34
  have h47 : x_tag M39 (x_r M9 v0 12) = 1 := by rw [w40]; exact h35
  have h48 : x_at M39 (x_r M17 v0 13) 1 (x_i M17 v0 0) = true := by rw [w40]; exact h36
  have h49 : x_tag M39 (x_r M17 v0 13) = 1 := by rw [w40]; exact h37
  have h50 : x_at M39 (x_r M27 v0 14) 1 (x_i M27 v0 0) = true := by rw [w40]; exact h38
  have h51 : x_tag M39 (x_r M27 v0 14) = 1 := by rw [w40]; exact (x_at_1 h38)
  refine x_iast' 49 dX9_adds_49 h38 w40 ?_
  refine x_aload_n 50 0 dX9_adds_50 rfl rfl ?_
  refine x_dup 51 dX9_adds_51 rfl ?_
  refine x_getf 52 93 9 0 (.int (x_i M39 v0 0)) dX9_adds_52 lk_1030 (by decide) (by decide) rfl (fun _ => rfl) h41 ?_
  refine x_dup_x1 55 dX9_adds_55 rfl rfl ?_
  refine x_iconst 56 (1 : Int32) dX9_adds_56 (by decide) ?_
  refine x_iadd 57 dX9_adds_57 ?_
  obtain ⟨M52, w53, H⟩ := x_lt_of H
  have h54 : x_tag M52 v0 = 9 + 10 := by rw [w53]; exact h41
  have h55 : x_at M52 (x_r M v0 10) 1 (x_i M v0 0) = true := by rw [w53]; exact h42
  have h56 : x_tag M52 (x_r M v0 10) = 1 := by rw [w53]; exact h43
  have h57 : x_at M52 (x_r M3 v0 11) 1 (x_i M3 v0 0) = true := by rw [w53]; exact h44
  have h58 : x_tag M52 (x_r M3 v0 11) = 1 := by rw [w53]; exact h45
  have h59 : x_at M52 (x_r M9 v0 12) 1 (x_i M9 v0 0) = true := by rw [w53]; exact h46
  have h60 : x_tag M52 (x_r M9 v0 12) = 1 := by rw [w53]; exact h47
  have h61 : x_at M52 (x_r M17 v0 13) 1 (x_i M17 v0 0) = true := by rw [w53]; exact h48
  have h62 : x_tag M52 (x_r M17 v0 13) = 1 := by rw [w53]; exact h49
  have h63 : x_at M52 (x_r M27 v0 14) 1 (x_i M27 v0 0) = true := by rw [w53]; exact h50
  have h64 : x_tag M52 (x_r M27 v0 14) = 1 := by rw [w53]; exact h51
  refine x_putI' 58 93 9 0 dX9_adds_58 lk_1030 (by decide) (by decide) rfl (Or.inl rfl) (Or.inl rfl) h41 w53 ?_
  cases H
  exact x_iret 61 dX9_adds_61 .int rfl rfl (Nat.le_of_ble_eq_true rfl) (Nat.le_of_ble_eq_true rfl) ⟨rfl, rfl⟩

theorem ct_X9_adds (l : Launch) {v0 : Nat} {v1 : Int32} {v2 : Int32} {M : XM} {q : Int32 × XM} (H : f_X9_adds v0 v1 v2 M = some q) : Ct l m_X9_adds 1 0 0 [(.ref v0), (.int v1), (.int v2)] M (x_Ri q) := x_met l m_X9_adds 1 0 0 [(.ref v0), (.int v1), (.int v2)] M (x_Ri q) _ rfl rfl (Nat.le_of_ble_eq_true rfl) (t_X9_adds l H)
theorem lk_1204 : Cond.code yX9_adds cX9_adds 3 (some .int) ∈ x_TB := x_tb (k := 1204) (by decide +kernel) rfl
theorem lk_1201 : Cond.methodLink RX9 114 yX9_adds ∈ x_TB := x_tb (k := 1201) (by decide +kernel) rfl
theorem lk_39 : Cond.selects RX9 yX9_adds yX9_adds ∈ x_TB := x_tb (k := 39) (by decide +kernel) rfl
theorem lk_1203 : Cond.instanceMethod yX9_adds ∈ x_TB := x_tb (k := 1203) (by decide +kernel) rfl
abbrev m_X9_counter : XU := (yX9_counter, cX9_counter, 3, (some .int))
theorem cn_X9_counter : m_X9_counter.1.cls ≠ "java/lang/invoke/MethodHandle" ∧ m_X9_counter.1.cls ≠ "java/lang/invoke/VarHandle" ∧ (parseMethodDescriptor m_X9_counter.1.desc).map (fun q => q.parameters.length) = some 2 := by decide +kernel
def f_X9_counter_10 (v0 : Nat) (M : XM) : Option (Int32 × XM) :=
  if x_tag M v0 = 9 + 10 then (x_bd (f_X9_no v0 (-1 : Int32) M) (fun r4 M3 => some (r4, M3))) else none
set_option maxRecDepth 20000 in
set_option maxHeartbeats 4000000 in
theorem t_X9_counter_10 (l : Launch) {v0 : Nat} {M : XM} {q : Int32 × XM} (H : f_X9_counter_10 v0 M = some q) : AW l m_X9_counter 2 0 0 (x_Ri q) 0 0 10 [some (.ref v0), none, none] [] M := by
  unfold f_X9_counter_10 at H
  refine x_aload_n 10 0 dX9_counter_10 rfl rfl ?_
  refine x_iconst 11 (-1 : Int32) dX9_counter_11 (by decide) ?_
  obtain ⟨h2, H⟩ := x_ckp H
  obtain ⟨r4, M3, e5, H⟩ := x_bd_of H
  refine x_callV 12 100 9 [(.int (-1 : Int32))] [] dX9_counter_12 (ct_X9_no l e5) lk_1165 lk_1167 lk_37 (by decide) h2 lk_94 lk_1168 ⟨cn_X9_no, (by decide), by decide⟩ rfl (Nat.le_of_ble_eq_true rfl) (Nat.le_of_ble_eq_true rfl) (Nat.le_of_ble_eq_true rfl) (x_ri ?_)
  cases H
  exact x_iret 15 dX9_counter_15 .int rfl rfl (Nat.le_of_ble_eq_true rfl) (Nat.le_of_ble_eq_true rfl) ⟨rfl, rfl⟩

def f_X9_counter_26 (v0 : Nat) (M : XM) : Option (Int32 × XM) :=
  if x_tag M v0 = 9 + 10 then (x_bd (f_X9_no v0 (-6 : Int32) M) (fun r10 M9 => some (r10, M9))) else none
set_option maxRecDepth 20000 in
set_option maxHeartbeats 4000000 in
theorem t_X9_counter_26 (l : Launch) {v0 : Nat} {M : XM} {q : Int32 × XM} (H : f_X9_counter_26 v0 M = some q) : AW l m_X9_counter 2 0 0 (x_Ri q) 0 0 26 [some (.ref v0), none, none] [] M := by
  unfold f_X9_counter_26 at H
  refine x_aload_n 26 0 dX9_counter_26 rfl rfl ?_
  refine x_bipush 27 (-6 : Int32) dX9_counter_27 (by decide) ?_
  obtain ⟨h8, H⟩ := x_ckp H
  obtain ⟨r10, M9, e11, H⟩ := x_bd_of H
  refine x_callV 29 100 9 [(.int (-6 : Int32))] [] dX9_counter_29 (ct_X9_no l e11) lk_1165 lk_1167 lk_37 (by decide) h8 lk_94 lk_1168 ⟨cn_X9_no, (by decide), by decide⟩ rfl (Nat.le_of_ble_eq_true rfl) (Nat.le_of_ble_eq_true rfl) (Nat.le_of_ble_eq_true rfl) (x_ri ?_)
  cases H
  exact x_iret 32 dX9_counter_32 .int rfl rfl (Nat.le_of_ble_eq_true rfl) (Nat.le_of_ble_eq_true rfl) ⟨rfl, rfl⟩

def f_X9_counter (v0 : Nat) (v1 : Int32) (v2 : Int32) (M : XM) : Option (Int32 × XM) :=
  if v1 < 0 then (f_X9_counter_10 v0 M) else (if v1 ≤ (6 : Int32) then (if v2 < 0 then (f_X9_counter_26 v0 M) else (if v2 ≤ (9 : Int32) then (if x_tag M v0 = 9 + 10 then (if (x_i M v0 0) = (6 : Int32) then (x_bd (f_X9_no v0 (-7 : Int32) M) (fun r16 M15 => some (r16, M15))) else (x_bd (f_X9_adds v0 v1 v2 M) (fun r19 M18 => some (r19, M18)))) else none) else (f_X9_counter_26 v0 M))) else (f_X9_counter_10 v0 M))
set_option maxRecDepth 20000 in
set_option maxHeartbeats 4000000 in
theorem t_X9_counter (l : Launch) {v0 : Nat} {v1 : Int32} {v2 : Int32} {M : XM} {q : Int32 × XM} (H : f_X9_counter v0 v1 v2 M = some q) : AW l m_X9_counter 2 0 0 (x_Ri q) 0 0 0 [some (.ref v0), some (.int v1), some (.int v2)] [] M := by
  unfold f_X9_counter at H
  refine x_iload_n 0 1 dX9_counter_0 rfl rfl ?_
  refine x_if_lt 1 10 dX9_counter_1 (by decide) (fun c1 => ?_) (fun c1 => ?_)
  · replace H := x_ifp c1 H
    exact x_wk (le_s (le_n (le_n le_0))) (t_X9_counter_10 l H)
  · replace H := x_ifn c1 H
    refine x_iload_n 4 1 dX9_counter_4 rfl rfl ?_
    refine x_bipush 5 (6 : Int32) dX9_counter_5 (by decide) ?_
    refine x_icmp_le 7 16 dX9_counter_7 (by decide) (fun c6 => ?_) (fun c6 => ?_)
    · replace H := x_ifp c6 H
      refine x_iload_n 16 2 dX9_counter_16 rfl rfl ?_
      refine x_if_lt 17 26 dX9_counter_17 (by decide) (fun c7 => ?_) (fun c7 => ?_)
      · replace H := x_ifp c7 H
        exact x_wk (le_s (le_n (le_n le_0))) (t_X9_counter_26 l H)
      · replace H := x_ifn c7 H
        refine x_iload_n 20 2 dX9_counter_20 rfl rfl ?_
        refine x_bipush 21 (9 : Int32) dX9_counter_21 (by decide) ?_
        refine x_icmp_le 23 33 dX9_counter_23 (by decide) (fun c12 => ?_) (fun c12 => ?_)
        · replace H := x_ifp c12 H
          refine x_aload_n 33 0 dX9_counter_33 rfl rfl ?_
          obtain ⟨h13, H⟩ := x_ckp H
          refine x_getf 34 93 9 0 (.int (x_i M v0 0)) dX9_counter_34 lk_1030 (by decide) (by decide) rfl (fun _ => rfl) h13 ?_
          refine x_bipush 37 (6 : Int32) dX9_counter_37 (by decide) ?_
          refine x_icmp_ne 39 51 dX9_counter_39 (by decide) (fun c14 => ?_) (fun c14 => ?_)
          · replace H := x_ifn c14 H
            refine x_aload_n 51 0 dX9_counter_51 rfl rfl ?_
            refine x_iload_n 52 1 dX9_counter_52 rfl rfl ?_
            refine x_iload_n 53 2 dX9_counter_53 rfl rfl ?_
            obtain ⟨r19, M18, e20, H⟩ := x_bd_of H
            refine x_callV 54 114 9 [(.int v1), (.int v2)] [] dX9_counter_54 (ct_X9_adds l e20) lk_1201 lk_1203 lk_39 (by decide) h13 lk_94 lk_1204 ⟨cn_X9_adds, (by decide), by decide⟩ rfl (Nat.le_of_ble_eq_true rfl) (Nat.le_of_ble_eq_true rfl) (Nat.le_of_ble_eq_true rfl) (x_ri ?_)
            cases H
            exact x_iret 57 dX9_counter_57 .int rfl rfl (Nat.le_of_ble_eq_true rfl) (Nat.le_of_ble_eq_true rfl) ⟨rfl, rfl⟩
          · replace H := x_ifp c14 H
            refine x_aload_n 42 0 dX9_counter_42 rfl rfl ?_
            refine x_bipush 43 (-7 : Int32) dX9_counter_43 (by decide) ?_
            obtain ⟨r16, M15, e17, H⟩ := x_bd_of H
            refine x_callV 45 100 9 [(.int (-7 : Int32))] [] dX9_counter_45 (ct_X9_no l e17) lk_1165 lk_1167 lk_37 (by decide) h13 lk_94 lk_1168 ⟨cn_X9_no, (by decide), by decide⟩ rfl (Nat.le_of_ble_eq_true rfl) (Nat.le_of_ble_eq_true rfl) (Nat.le_of_ble_eq_true rfl) (x_ri ?_)
            refine x_goto 48 57 dX9_counter_48 (by decide) ?_
            cases H
            exact x_iret 57 dX9_counter_57 .int rfl rfl (Nat.le_of_ble_eq_true rfl) (Nat.le_of_ble_eq_true rfl) ⟨rfl, rfl⟩
        · replace H := x_ifn c12 H
          exact x_wk (le_s (le_n (le_n le_0))) (t_X9_counter_26 l H)
    · replace H := x_ifn c6 H
      exact x_wk (le_s (le_n (le_n le_0))) (t_X9_counter_10 l H)

theorem ct_X9_counter (l : Launch) {v0 : Nat} {v1 : Int32} {v2 : Int32} {M : XM} {q : Int32 × XM} (H : f_X9_counter v0 v1 v2 M = some q) : Ct l m_X9_counter 2 0 0 [(.ref v0), (.int v1), (.int v2)] M (x_Ri q) := x_met l m_X9_counter 2 0 0 [(.ref v0), (.int v1), (.int v2)] M (x_Ri q) _ rfl rfl (Nat.le_of_ble_eq_true rfl) (t_X9_counter l H)
abbrev m_X9_counterOf : XU := (yX9_counterOf, cX9_counterOf, 3, (some .int))
theorem cn_X9_counterOf : m_X9_counterOf.1.cls ≠ "java/lang/invoke/MethodHandle" ∧ m_X9_counterOf.1.cls ≠ "java/lang/invoke/VarHandle" ∧ (parseMethodDescriptor m_X9_counterOf.1.desc).map (fun q => q.parameters.length) = some 2 := by decide +kernel
def f_X9_counterOf_c2 (v0 : Nat) (v1 : Int32) (v2 : Int32) (s0 : Int32) (M : XM) : Option (Int32 × XM) :=
  if s0 = 0 then (if x_tag M v0 = 9 + 10 then (x_bd (f_X9_no v0 (-5 : Int32) M) (fun r8 M7 => some (r8, M7))) else none) else (if v2 = (0 : Int32) then (if x_tag M v0 = 9 + 10 then (if x_at M (x_r M v0 10) 1 v1 = true then (some ((x_i M (x_r M v0 10) v1.toNatClampNeg), M)) else none) else none) else if v2 = (1 : Int32) then (if x_tag M v0 = 9 + 10 then (if x_at M (x_r M v0 11) 1 v1 = true then (some ((x_i M (x_r M v0 11) v1.toNatClampNeg), M)) else none) else none) else if v2 = (2 : Int32) then (if x_tag M v0 = 9 + 10 then (if x_at M (x_r M v0 12) 1 v1 = true then (some ((x_i M (x_r M v0 12) v1.toNatClampNeg), M)) else none) else none) else if v2 = (3 : Int32) then (if x_tag M v0 = 9 + 10 then (if x_at M (x_r M v0 13) 1 v1 = true then (some ((x_i M (x_r M v0 13) v1.toNatClampNeg), M)) else none) else none) else if v2 = (4 : Int32) then (if x_tag M v0 = 9 + 10 then (if x_at M (x_r M v0 14) 1 v1 = true then (some ((x_i M (x_r M v0 14) v1.toNatClampNeg), M)) else none) else none) else if x_tag M v0 = 9 + 10 then (x_bd (f_X9_no v0 (-5 : Int32) M) (fun r27 M26 => some (r27, M26))) else none)
set_option maxRecDepth 20000 in
set_option maxHeartbeats 4000000 in
theorem t_X9_counterOf_c2 (l : Launch) {v0 : Nat} {v1 : Int32} {v2 : Int32} {s0 : Int32} {M : XM} {q : Int32 × XM} (H : f_X9_counterOf_c2 v0 v1 v2 s0 M = some q) : AW l m_X9_counterOf 2 0 0 (x_Ri q) 0 0 5 [some (.ref v0), some (.int v1), some (.int v2)] [(.int s0)] M := by
  unfold f_X9_counterOf_c2 at H
  refine x_if_ne 5 15 dX9_counterOf_5 (by decide) (fun c5 => ?_) (fun c5 => ?_)
  · replace H := x_ifn c5 H
    refine x_iload_n 15 2 dX9_counterOf_15 rfl rfl ?_
    by_cases c10 : v2 = (0 : Int32)
    · replace H := x_ifp c10 H
      refine x_tableIn (off := 36) 16 52 dX9_counterOf_16 (by rw [c10]; decide) (by rw [c10]; decide) (by rw [c10]; rfl) (by decide) ?_
      refine x_aload_n 52 0 dX9_counterOf_52 rfl rfl ?_
      obtain ⟨h11, H⟩ := x_ckp H
      refine x_getf 53 32 9 10 (.ref (x_r M v0 10)) dX9_counterOf_53 lk_1040 (by decide) (by decide) rfl (fun _ => rfl) h11 ?_
      refine x_iload_n 56 1 dX9_counterOf_56 rfl rfl ?_
      obtain ⟨h12, H⟩ := x_ckp H
      refine x_iald 57 dX9_counterOf_57 h12 ?_
      cases H
      exact x_iret 58 dX9_counterOf_58 .int rfl rfl (Nat.le_of_ble_eq_true rfl) (Nat.le_of_ble_eq_true rfl) ⟨rfl, rfl⟩
    · replace H := x_ifn c10 H
      by_cases c13 : v2 = (1 : Int32)
      · replace H := x_ifp c13 H
        refine x_tableIn (off := 43) 16 59 dX9_counterOf_16 (by rw [c13]; decide) (by rw [c13]; decide) (by rw [c13]; rfl) (by decide) ?_
        refine x_aload_n 59 0 dX9_counterOf_59 rfl rfl ?_
        obtain ⟨h14, H⟩ := x_ckp H
        refine x_getf 60 35 9 11 (.ref (x_r M v0 11)) dX9_counterOf_60 lk_1041 (by decide) (by decide) rfl (fun _ => rfl) h14 ?_
        refine x_iload_n 63 1 dX9_counterOf_63 rfl rfl ?_
        obtain ⟨h15, H⟩ := x_ckp H
        refine x_iald 64 dX9_counterOf_64 h15 ?_
        cases H
        exact x_iret 65 dX9_counterOf_65 .int rfl rfl (Nat.le_of_ble_eq_true rfl) (Nat.le_of_ble_eq_true rfl) ⟨rfl, rfl⟩
      · replace H := x_ifn c13 H
        by_cases c16 : v2 = (2 : Int32)
        · replace H := x_ifp c16 H
          refine x_tableIn (off := 50) 16 66 dX9_counterOf_16 (by rw [c16]; decide) (by rw [c16]; decide) (by rw [c16]; rfl) (by decide) ?_
          refine x_aload_n 66 0 dX9_counterOf_66 rfl rfl ?_
          obtain ⟨h17, H⟩ := x_ckp H
          refine x_getf 67 38 9 12 (.ref (x_r M v0 12)) dX9_counterOf_67 lk_1042 (by decide) (by decide) rfl (fun _ => rfl) h17 ?_
          refine x_iload_n 70 1 dX9_counterOf_70 rfl rfl ?_
          obtain ⟨h18, H⟩ := x_ckp H
          refine x_iald 71 dX9_counterOf_71 h18 ?_
          cases H
          exact x_iret 72 dX9_counterOf_72 .int rfl rfl (Nat.le_of_ble_eq_true rfl) (Nat.le_of_ble_eq_true rfl) ⟨rfl, rfl⟩
        · replace H := x_ifn c16 H
          by_cases c19 : v2 = (3 : Int32)
          · replace H := x_ifp c19 H
            refine x_tableIn (off := 57) 16 73 dX9_counterOf_16 (by rw [c19]; decide) (by rw [c19]; decide) (by rw [c19]; rfl) (by decide) ?_
            refine x_aload_n 73 0 dX9_counterOf_73 rfl rfl ?_
            obtain ⟨h20, H⟩ := x_ckp H
            refine x_getf 74 41 9 13 (.ref (x_r M v0 13)) dX9_counterOf_74 lk_1043 (by decide) (by decide) rfl (fun _ => rfl) h20 ?_
            refine x_iload_n 77 1 dX9_counterOf_77 rfl rfl ?_
            obtain ⟨h21, H⟩ := x_ckp H
            refine x_iald 78 dX9_counterOf_78 h21 ?_
            cases H
            exact x_iret 79 dX9_counterOf_79 .int rfl rfl (Nat.le_of_ble_eq_true rfl) (Nat.le_of_ble_eq_true rfl) ⟨rfl, rfl⟩
          · replace H := x_ifn c19 H
            by_cases c22 : v2 = (4 : Int32)
            · replace H := x_ifp c22 H
              refine x_tableIn (off := 64) 16 80 dX9_counterOf_16 (by rw [c22]; decide) (by rw [c22]; decide) (by rw [c22]; rfl) (by decide) ?_
              refine x_aload_n 80 0 dX9_counterOf_80 rfl rfl ?_
              obtain ⟨h23, H⟩ := x_ckp H
              refine x_getf 81 44 9 14 (.ref (x_r M v0 14)) dX9_counterOf_81 lk_1044 (by decide) (by decide) rfl (fun _ => rfl) h23 ?_
              refine x_iload_n 84 1 dX9_counterOf_84 rfl rfl ?_
              obtain ⟨h24, H⟩ := x_ckp H
              refine x_iald 85 dX9_counterOf_85 h24 ?_
              cases H
              exact x_iret 86 dX9_counterOf_86 .int rfl rfl (Nat.le_of_ble_eq_true rfl) (Nat.le_of_ble_eq_true rfl) ⟨rfl, rfl⟩
            · replace H := x_ifn c22 H
              refine x_tableOut 16 87 dX9_counterOf_16 (by have n0 := lv_neT (a := 0) c10 (by decide); have n1 := lv_neT (a := 1) c13 (by decide); have n2 := lv_neT (a := 2) c16 (by decide); have n3 := lv_neT (a := 3) c19 (by decide); have n4 := lv_neT (a := 4) c22 (by decide); omega) (by decide) ?_
              refine x_aload_n 87 0 dX9_counterOf_87 rfl rfl ?_
              refine x_bipush 88 (-5 : Int32) dX9_counterOf_88 (by decide) ?_
              obtain ⟨h25, H⟩ := x_ckp H
              obtain ⟨r27, M26, e28, H⟩ := x_bd_of H
              refine x_callV 90 100 9 [(.int (-5 : Int32))] [] dX9_counterOf_90 (ct_X9_no l e28) lk_1165 lk_1167 lk_37 (by decide) h25 lk_94 lk_1168 ⟨cn_X9_no, (by decide), by decide⟩ rfl (Nat.le_of_ble_eq_true rfl) (Nat.le_of_ble_eq_true rfl) (Nat.le_of_ble_eq_true rfl) (x_ri ?_)
              cases H
              exact x_iret 93 dX9_counterOf_93 .int rfl rfl (Nat.le_of_ble_eq_true rfl) (Nat.le_of_ble_eq_true rfl) ⟨rfl, rfl⟩
  · replace H := x_ifp c5 H
    refine x_aload_n 8 0 dX9_counterOf_8 rfl rfl ?_
    refine x_bipush 9 (-5 : Int32) dX9_counterOf_9 (by decide) ?_
    obtain ⟨h6, H⟩ := x_ckp H
    obtain ⟨r8, M7, e9, H⟩ := x_bd_of H
    refine x_callV 11 100 9 [(.int (-5 : Int32))] [] dX9_counterOf_11 (ct_X9_no l e9) lk_1165 lk_1167 lk_37 (by decide) h6 lk_94 lk_1168 ⟨cn_X9_no, (by decide), by decide⟩ rfl (Nat.le_of_ble_eq_true rfl) (Nat.le_of_ble_eq_true rfl) (Nat.le_of_ble_eq_true rfl) (x_ri ?_)
    cases H
    exact x_iret 14 dX9_counterOf_14 .int rfl rfl (Nat.le_of_ble_eq_true rfl) (Nat.le_of_ble_eq_true rfl) ⟨rfl, rfl⟩

def f_X9_counterOf (v0 : Nat) (v1 : Int32) (v2 : Int32) (M : XM) : Option (Int32 × XM) :=
  if x_tag M v0 = 9 + 10 then (x_bd (f_X9_isCounter v0 v1 M) (f_X9_counterOf_c2 v0 v1 v2)) else none
set_option maxRecDepth 20000 in
set_option maxHeartbeats 4000000 in
theorem t_X9_counterOf (l : Launch) {v0 : Nat} {v1 : Int32} {v2 : Int32} {M : XM} {q : Int32 × XM} (H : f_X9_counterOf v0 v1 v2 M = some q) : AW l m_X9_counterOf 2 0 0 (x_Ri q) 0 0 0 [some (.ref v0), some (.int v1), some (.int v2)] [] M := by
  unfold f_X9_counterOf at H
  refine x_aload_n 0 0 dX9_counterOf_0 rfl rfl ?_
  refine x_iload_n 1 1 dX9_counterOf_1 rfl rfl ?_
  obtain ⟨h1, H⟩ := x_ckp H
  obtain ⟨r3, M2, e4, H⟩ := x_bd_of H
  refine x_callV 2 104 9 [(.int v1)] [] dX9_counterOf_2 (ct_X9_isCounter l e4) lk_1185 lk_1187 lk_38 (by decide) h1 lk_94 lk_1188 ⟨cn_X9_isCounter, (by decide), by decide⟩ rfl (Nat.le_of_ble_eq_true rfl) (Nat.le_of_ble_eq_true rfl) (Nat.le_of_ble_eq_true rfl) (x_ri ?_)
  exact t_X9_counterOf_c2 l H

theorem ct_X9_counterOf (l : Launch) {v0 : Nat} {v1 : Int32} {v2 : Int32} {M : XM} {q : Int32 × XM} (H : f_X9_counterOf v0 v1 v2 M = some q) : Ct l m_X9_counterOf 2 0 0 [(.ref v0), (.int v1), (.int v2)] M (x_Ri q) := x_met l m_X9_counterOf 2 0 0 [(.ref v0), (.int v1), (.int v2)] M (x_Ri q) _ rfl rfl (Nat.le_of_ble_eq_true rfl) (t_X9_counterOf l H)
