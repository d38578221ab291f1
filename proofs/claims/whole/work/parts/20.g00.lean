theorem lk_316 : Cond.methodLink RX0 3 Lib.objectInit ∈ x_TB := x_tb (k := 316) (by decide +kernel) rfl
theorem lk_108 : Cond.instanceMethod Lib.objectInit ∈ x_TB := x_tb (k := 108) (by decide +kernel) rfl
theorem lk_109 : Cond.code Lib.objectInit ⟨#[0xb1]⟩ 1 none ∈ x_TB := x_tb (k := 109) (by decide +kernel) rfl
theorem lk_153 : Cond.arrayClass (newarray.typeOf .int) ∈ x_TB := x_tb (k := 153) (by decide +kernel) rfl
theorem lk_319 : Cond.fieldLink RX0 9 RX0 "bodies" "[I" ∈ x_TB := x_tb (k := 319) (by decide +kernel) rfl
abbrev m_X0_init : XU := (yX0_init, cX0_init, 1, none)
theorem cn_X0_init : m_X0_init.1.cls ≠ "java/lang/invoke/MethodHandle" ∧ m_X0_init.1.cls ≠ "java/lang/invoke/VarHandle" ∧ (parseMethodDescriptor m_X0_init.1.desc).map (fun q => q.parameters.length) = some 0 := by decide +kernel
def f_X0_init (v0 : Nat) (M : XM) : Option XM :=
  if x_tag M v0 = 0 + 10 then (x_al M 1 20 (fun a3 M2 => if x_tag M2 v0 = 0 + 10 then (x_lt (x_wr M2 v0 1 a3) (fun M8 => some M8)) else none)) else none
set_option maxRecDepth 20000 in
set_option maxHeartbeats 4000000 in
theorem t_X0_init (l : Launch) {v0 : Nat} {M : XM} {q : XM} (H : f_X0_init v0 M = some q) : AW l m_X0_init 1 1 20 (x_Rv q) 0 0 0 [some (.ref v0)] [] M := by
  unfold f_X0_init at H
  refine x_aload_n 0 0 dX0_init_0 rfl rfl ?_
  obtain ⟨h1, H⟩ := x_ckp H
  refine x_objInit 1 3 dX0_init_1 lk_316 lk_108 lk_109 h1 rfl (Nat.le_of_ble_eq_true rfl) (by decide) ?_
  refine x_aload_n 4 0 dX0_init_4 rfl rfl ?_
  refine x_bipush 5 (20 : Int32) dX0_init_5 (by decide) ?_
  obtain ⟨a3, M2, w4, w5, H⟩ := x_al_of H
  refine x_newI' 7 20 dX0_init_7 lk_153 (by decide) (by decide) (by decide) (Nat.le_of_ble_eq_true rfl) (Nat.le_of_ble_eq_true rfl) w4 w5 ?_
  have h6 : x_tag M2 a3 = 1 := x_al_tag w4 w5
  change AW _ _ _ _ _ _ 1 20 _ _ _ _
  obtain ⟨h7, H⟩ := x_ckp H
  obtain ⟨M8, w9, H⟩ := x_lt_of H
  have h10 : x_tag M8 a3 = 1 := by rw [w9]; exact h6
  have h11 : x_tag M8 v0 = 0 + 10 := by rw [w9]; exact h7
  refine x_putR' 9 9 0 1 dX0_init_9 lk_319 (by decide) (by decide) rfl (Or.inr ⟨_, rfl⟩) (Or.inr ⟨rfl, rfl⟩) h7 w9 ?_
  cases H
  exact x_vret 12 dX0_init_12 rfl (Nat.le_of_ble_eq_true rfl) (Nat.le_of_ble_eq_true rfl) ⟨rfl, rfl⟩

theorem ct_X0_init (l : Launch) {v0 : Nat} {M : XM} {q : XM} (H : f_X0_init v0 M = some q) : Ct l m_X0_init 1 1 20 [(.ref v0)] M (x_Rv q) := x_met l m_X0_init 1 1 20 [(.ref v0)] M (x_Rv q) _ rfl rfl (Nat.le_of_ble_eq_true rfl) (t_X0_init l H)
theorem lk_317 : Cond.fieldLink RX0 15 RX0 "ran" "I" ∈ x_TB := x_tb (k := 317) (by decide +kernel) rfl
abbrev m_X0_forgetTrace : XU := (yX0_forgetTrace, cX0_forgetTrace, 1, none)
theorem cn_X0_forgetTrace : m_X0_forgetTrace.1.cls ≠ "java/lang/invoke/MethodHandle" ∧ m_X0_forgetTrace.1.cls ≠ "java/lang/invoke/VarHandle" ∧ (parseMethodDescriptor m_X0_forgetTrace.1.desc).map (fun q => q.parameters.length) = some 0 := by decide +kernel
def f_X0_forgetTrace (v0 : Nat) (M : XM) : Option XM :=
  if x_tag M v0 = 0 + 10 then (x_lt (x_wi M v0 0 (0 : Int32)) (fun M2 => some M2)) else none
set_option maxRecDepth 20000 in
set_option maxHeartbeats 4000000 in
theorem t_X0_forgetTrace (l : Launch) {v0 : Nat} {M : XM} {q : XM} (H : f_X0_forgetTrace v0 M = some q) : AW l m_X0_forgetTrace 1 0 0 (x_Rv q) 0 0 0 [some (.ref v0)] [] M := by
  unfold f_X0_forgetTrace at H
  refine x_aload_n 0 0 dX0_forgetTrace_0 rfl rfl ?_
  refine x_iconst 1 (0 : Int32) dX0_forgetTrace_1 (by decide) ?_
  obtain ⟨h1, H⟩ := x_ckp H
  obtain ⟨M2, w3, H⟩ := x_lt_of H
  have h4 : x_tag M2 v0 = 0 + 10 := by rw [w3]; exact h1
  refine x_putI' 2 15 0 0 dX0_forgetTrace_2 lk_317 (by decide) (by decide) rfl (Or.inl rfl) (Or.inl rfl) h1 w3 ?_
  cases H
  exact x_vret 5 dX0_forgetTrace_5 rfl (Nat.le_of_ble_eq_true rfl) (Nat.le_of_ble_eq_true rfl) ⟨rfl, rfl⟩

theorem ct_X0_forgetTrace (l : Launch) {v0 : Nat} {M : XM} {q : XM} (H : f_X0_forgetTrace v0 M = some q) : Ct l m_X0_forgetTrace 1 0 0 [(.ref v0)] M (x_Rv q) := x_met l m_X0_forgetTrace 1 0 0 [(.ref v0)] M (x_Rv q) _ rfl rfl (Nat.le_of_ble_eq_true rfl) (t_X0_forgetTrace l H)
abbrev m_X0_bodyAt : XU := (yX0_bodyAt, cX0_bodyAt, 2, (some .int))
theorem cn_X0_bodyAt : m_X0_bodyAt.1.cls ≠ "java/lang/invoke/MethodHandle" ∧ m_X0_bodyAt.1.cls ≠ "java/lang/invoke/VarHandle" ∧ (parseMethodDescriptor m_X0_bodyAt.1.desc).map (fun q => q.parameters.length) = some 1 := by decide +kernel
def f_X0_bodyAt (v0 : Nat) (v1 : Int32) (M : XM) : Option (Int32 × XM) :=
  if v1 < 0 then (some ((-1 : Int32), M)) else (if x_tag M v0 = 0 + 10 then (if (x_i M v0 0) ≤ v1 then (some ((-1 : Int32), M)) else (if x_tag M (x_r M v0 1) = 1 then (if (Int32.ofNat (x_len M (x_r M v0 1))) ≤ v1 then (some ((-1 : Int32), M)) else (if x_at M (x_r M v0 1) 1 v1 = true then (some ((x_i M (x_r M v0 1) v1.toNatClampNeg), M)) else none)) else none)) else none)
set_option maxRecDepth 20000 in
set_option maxHeartbeats 4000000 in
theorem t_X0_bodyAt (l : Launch) {v0 : Nat} {v1 : Int32} {M : XM} {q : Int32 × XM} (H : f_X0_bodyAt v0 v1 M = some q) : AW l m_X0_bodyAt 1 0 0 (x_Ri q) 0 0 0 [some (.ref v0), some (.int v1)] [] M := by
  unfold f_X0_bodyAt at H
  refine x_iload_n 0 1 dX0_bodyAt_0 rfl rfl ?_
  refine x_if_lt 1 30 dX0_bodyAt_1 (by decide) (fun c1 => ?_) (fun c1 => ?_)
  · replace H := x_ifp c1 H
    refine x_iconst 30 (-1 : Int32) dX0_bodyAt_30 (by decide) ?_
    cases H
    exact x_iret 31 dX0_bodyAt_31 .int rfl rfl (Nat.le_of_ble_eq_true rfl) (Nat.le_of_ble_eq_true rfl) ⟨rfl, rfl⟩
  · replace H := x_ifn c1 H
    refine x_iload_n 4 1 dX0_bodyAt_4 rfl rfl ?_
    refine x_aload_n 5 0 dX0_bodyAt_5 rfl rfl ?_
    obtain ⟨h2, H⟩ := x_ckp H
    refine x_getf 6 15 0 0 (.int (x_i M v0 0)) dX0_bodyAt_6 lk_317 (by decide) (by decide) rfl (fun _ => rfl) h2 ?_
    refine x_icmp_ge 9 30 dX0_bodyAt_9 (by decide) (fun c3 => ?_) (fun c3 => ?_)
    · replace H := x_ifp c3 H
      refine x_iconst 30 (-1 : Int32) dX0_bodyAt_30 (by decide) ?_
      cases H
      exact x_iret 31 dX0_bodyAt_31 .int rfl rfl (Nat.le_of_ble_eq_true rfl) (Nat.le_of_ble_eq_true rfl) ⟨rfl, rfl⟩
    · replace H := x_ifn c3 H
      refine x_iload_n 12 1 dX0_bodyAt_12 rfl rfl ?_
      refine x_aload_n 13 0 dX0_bodyAt_13 rfl rfl ?_
      refine x_getf 14 9 0 1 (.ref (x_r M v0 1)) dX0_bodyAt_14 lk_319 (by decide) (by decide) rfl (fun _ => rfl) h2 ?_
      obtain ⟨h4, H⟩ := x_ckp H
      refine x_alen 17 1 dX0_bodyAt_17 h4 (by decide) ?_
      refine x_icmp_ge 18 30 dX0_bodyAt_18 (by decide) (fun c5 => ?_) (fun c5 => ?_)
      · replace H := x_ifp c5 H
        refine x_iconst 30 (-1 : Int32) dX0_bodyAt_30 (by decide) ?_
        cases H
        exact x_iret 31 dX0_bodyAt_31 .int rfl rfl (Nat.le_of_ble_eq_true rfl) (Nat.le_of_ble_eq_true rfl) ⟨rfl, rfl⟩
      · replace H := x_ifn c5 H
        refine x_aload_n 21 0 dX0_bodyAt_21 rfl rfl ?_
        refine x_getf 22 9 0 1 (.ref (x_r M v0 1)) dX0_bodyAt_22 lk_319 (by decide) (by decide) rfl (fun _ => rfl) h2 ?_
        refine x_iload_n 25 1 dX0_bodyAt_25 rfl rfl ?_
        obtain ⟨h6, H⟩ := x_ckp H
        refine x_iald 26 dX0_bodyAt_26 h6 ?_
        refine x_goto 27 31 dX0_bodyAt_27 (by decide) ?_
        cases H
        exact x_iret 31 dX0_bodyAt_31 .int rfl rfl (Nat.le_of_ble_eq_true rfl) (Nat.le_of_ble_eq_true rfl) ⟨rfl, rfl⟩

theorem ct_X0_bodyAt (l : Launch) {v0 : Nat} {v1 : Int32} {M : XM} {q : Int32 × XM} (H : f_X0_bodyAt v0 v1 M = some q) : Ct l m_X0_bodyAt 1 0 0 [(.ref v0), (.int v1)] M (x_Ri q) := x_met l m_X0_bodyAt 1 0 0 [(.ref v0), (.int v1)] M (x_Ri q) _ rfl rfl (Nat.le_of_ble_eq_true rfl) (t_X0_bodyAt l H)
theorem lk_124 : Cond.fieldLink RX0 19 RX2 "kind" "I" ∈ x_TB := x_tb (k := 124) (by decide +kernel) rfl
theorem lk_320 : Cond.fieldLink RX0 24 RX0 "kind" "I" ∈ x_TB := x_tb (k := 320) (by decide +kernel) rfl
theorem lk_321 : Cond.fieldLink RX0 25 RX0 "number" "I" ∈ x_TB := x_tb (k := 321) (by decide +kernel) rfl
theorem lk_127 : Cond.fieldLink RX0 28 RX2 "a" "I" ∈ x_TB := x_tb (k := 127) (by decide +kernel) rfl
theorem lk_322 : Cond.fieldLink RX0 31 RX0 "a" "I" ∈ x_TB := x_tb (k := 322) (by decide +kernel) rfl
abbrev m_X0_begin : XU := (yX0_begin, cX0_begin, 2, none)
theorem cn_X0_begin : m_X0_begin.1.cls ≠ "java/lang/invoke/MethodHandle" ∧ m_X0_begin.1.cls ≠ "java/lang/invoke/VarHandle" ∧ (parseMethodDescriptor m_X0_begin.1.desc).map (fun q => q.parameters.length) = some 1 := by decide +kernel
def f_X0_begin_22 (v0 : Nat) (M : XM) : Option XM :=
  if x_tag M v0 = 0 + 10 then (x_lt (x_wi M v0 0 ((x_i M v0 0) + (1 : Int32))) (fun M5 => some M5)) else none
set_option maxRecDepth 20000 in
set_option maxHeartbeats 4000000 in
theorem t_X0_begin_22 (l : Launch) {v0 : Nat} {M : XM} {q : XM} (H : f_X0_begin_22 v0 M = some q) : AW l m_X0_begin 1 0 0 (x_Rv q) 0 0 22 [some (.ref v0), none] [] M := by
  unfold f_X0_begin_22 at H
  refine x_aload_n 22 0 dX0_begin_22 rfl rfl ?_
  refine x_dup 23 dX0_begin_23 rfl ?_
  obtain ⟨h4, H⟩ := x_ckp H
  refine x_getf 24 15 0 0 (.int (x_i M v0 0)) dX0_begin_24 lk_317 (by decide) (by decide) rfl (fun _ => rfl) h4 ?_
  refine x_iconst 27 (1 : Int32) dX0_begin_27 (by decide) ?_
  refine x_iadd 28 dX0_begin_28 ?_
  obtain ⟨M5, w6, H⟩ := x_lt_of H
  have h7 : x_tag M5 v0 = 0 + 10 := by rw [w6]; exact h4
  refine x_putI' 29 15 0 0 dX0_begin_29 lk_317 (by decide) (by decide) rfl (Or.inl rfl) (Or.inl rfl) h4 w6 ?_
  cases H
  exact x_vret 32 dX0_begin_32 rfl (Nat.le_of_ble_eq_true rfl) (Nat.le_of_ble_eq_true rfl) ⟨rfl, rfl⟩

def f_X0_begin (v0 : Nat) (v1 : Int32) (M : XM) : Option XM :=
  if x_tag M v0 = 0 + 10 then (if x_tag M (x_r M v0 1) = 1 then (if (Int32.ofNat (x_len M (x_r M v0 1))) ≤ (x_i M v0 0) then (f_X0_begin_22 v0 M) else (if x_at M (x_r M v0 1) 1 (x_i M v0 0) = true then (x_lt (x_wi M (x_r M v0 1) (x_i M v0 0).toNatClampNeg v1) (fun M9 => f_X0_begin_22 v0 M9)) else none)) else none) else none
set_option maxRecDepth 20000 in
set_option maxHeartbeats 4000000 in
theorem t_X0_begin (l : Launch) {v0 : Nat} {v1 : Int32} {M : XM} {q : XM} (H : f_X0_begin v0 v1 M = some q) : AW l m_X0_begin 1 0 0 (x_Rv q) 0 0 0 [some (.ref v0), some (.int v1)] [] M := by
  unfold f_X0_begin at H
  refine x_aload_n 0 0 dX0_begin_0 rfl rfl ?_
  obtain ⟨h1, H⟩ := x_ckp H
  refine x_getf 1 15 0 0 (.int (x_i M v0 0)) dX0_begin_1 lk_317 (by decide) (by decide) rfl (fun _ => rfl) h1 ?_
  refine x_aload_n 4 0 dX0_begin_4 rfl rfl ?_
  refine x_getf 5 9 0 1 (.ref (x_r M v0 1)) dX0_begin_5 lk_319 (by decide) (by decide) rfl (fun _ => rfl) h1 ?_
  obtain ⟨h2, H⟩ := x_ckp H
  refine x_alen 8 1 dX0_begin_8 h2 (by decide) ?_
  refine x_icmp_ge 9 22 dX0_begin_9 (by decide) (fun c3 => ?_) (fun c3 => ?_)
  · replace H := x_ifp c3 H
    exact x_wk (le_s (le_n le_0)) (t_X0_begin_22 l H)
  · replace H := x_ifn c3 H
    refine x_aload_n 12 0 dX0_begin_12 rfl rfl ?_
    refine x_getf 13 9 0 1 (.ref (x_r M v0 1)) dX0_begin_13 lk_319 (by decide) (by decide) rfl (fun _ => rfl) h1 ?_
    refine x_aload_n 16 0 dX0_begin_16 rfl rfl ?_
    refine x_getf 17 15 0 0 (.int (x_i M v0 0)) dX0_begin_17 lk_317 (by decide) (by decide) rfl (fun _ => rfl) h1 ?_
    refine x_iload_n 20 1 dX0_begin_20 rfl rfl ?_
    obtain ⟨h8, H⟩ := x_ckp H
    obtain ⟨M9, w10, H⟩ := x_lt_of H
    have h11 : x_tag M9 v0 = 0 + 10 := by rw [w10]; exact h1
    have h12 : x_tag M9 (x_r M v0 1) = 1 := by rw [w10]; exact h2
    have h13 : x_at M9 (x_r M v0 1) 1 (x_i M v0 0) = true := by rw [w10]; exact h8
    refine x_iast' 21 dX0_begin_21 h8 w10 ?_
    exact x_wk (le_s (le_n le_0)) (t_X0_begin_22 l H)

theorem ct_X0_begin (l : Launch) {v0 : Nat} {v1 : Int32} {M : XM} {q : XM} (H : f_X0_begin v0 v1 M = some q) : Ct l m_X0_begin 1 0 0 [(.ref v0), (.int v1)] M (x_Rv q) := x_met l m_X0_begin 1 0 0 [(.ref v0), (.int v1)] M (x_Rv q) _ rfl rfl (Nat.le_of_ble_eq_true rfl) (t_X0_begin l H)
theorem lk_92 : Cond.initialized RX0 ∈ x_TB := x_tb (k := 92) (by decide +kernel) rfl
theorem lk_984 : Cond.code yX0_begin cX0_begin 2 none ∈ x_TB := x_tb (k := 984) (by decide +kernel) rfl
theorem lk_981 : Cond.methodLink RX0 42 yX0_begin ∈ x_TB := x_tb (k := 981) (by decide +kernel) rfl
theorem lk_32 : Cond.selects RX0 yX0_begin yX0_begin ∈ x_TB := x_tb (k := 32) (by decide +kernel) rfl
theorem lk_983 : Cond.instanceMethod yX0_begin ∈ x_TB := x_tb (k := 983) (by decide +kernel) rfl
theorem lk_502 : Cond.fieldLink RX8 351 "WhatDidYouSay" "ABOVE" "[I" ∈ x_TB := x_tb (k := 502) (by decide +kernel) rfl
abbrev m_X8_isKind : XU := (yX8_isKind, cX8_isKind, 1, (some .boolean))
theorem cn_X8_isKind : m_X8_isKind.1.cls ≠ "java/lang/invoke/MethodHandle" ∧ m_X8_isKind.1.cls ≠ "java/lang/invoke/VarHandle" ∧ (parseMethodDescriptor m_X8_isKind.1.desc).map (fun q => q.parameters.length) = some 1 := by decide +kernel
def f_X8_isKind (v0 : Int32) (M : XM) : Option (Int32 × XM) :=
  if v0 < 0 then (some ((0 : Int32), M)) else (if x_tag M 2 = 5 then (if (Int32.ofNat (x_len M 2)) ≤ v0 then (some ((0 : Int32), M)) else (some ((1 : Int32), M))) else none)
set_option maxRecDepth 20000 in
set_option maxHeartbeats 4000000 in
theorem t_X8_isKind (l : Launch) {v0 : Int32} {M : XM} {q : Int32 × XM} (H : f_X8_isKind v0 M = some q) : AW l m_X8_isKind 1 0 0 (x_Ri q) 0 0 0 [some (.int v0)] [] M := by
  unfold f_X8_isKind at H
  refine x_iload_n 0 0 dX8_isKind_0 rfl rfl ?_
  refine x_if_lt 1 16 dX8_isKind_1 (by decide) (fun c1 => ?_) (fun c1 => ?_)
  · replace H := x_ifp c1 H
    refine x_iconst 16 (0 : Int32) dX8_isKind_16 (by decide) ?_
    cases H
    exact x_iret 17 dX8_isKind_17 .boolean rfl rfl (Nat.le_of_ble_eq_true rfl) (Nat.le_of_ble_eq_true rfl) ⟨rfl, rfl⟩
  · replace H := x_ifn c1 H
    refine x_iload_n 4 0 dX8_isKind_4 rfl rfl ?_
    refine x_gets 5 351 2 "ABOVE" "[I" dX8_isKind_5 "WhatDidYouSay" x_ZA lk_502 ?_
    obtain ⟨h2, H⟩ := x_ckp H
    refine x_salen 8 dX8_isKind_8 h2 (by decide) ?_
    refine x_icmp_ge 9 16 dX8_isKind_9 (by decide) (fun c3 => ?_) (fun c3 => ?_)
    · replace H := x_ifp c3 H
      refine x_iconst 16 (0 : Int32) dX8_isKind_16 (by decide) ?_
      cases H
      exact x_iret 17 dX8_isKind_17 .boolean rfl rfl (Nat.le_of_ble_eq_true rfl) (Nat.le_of_ble_eq_true rfl) ⟨rfl, rfl⟩
    · replace H := x_ifn c3 H
      refine x_iconst 12 (1 : Int32) dX8_isKind_12 (by decide) ?_
      refine x_goto 13 17 dX8_isKind_13 (by decide) ?_
      cases H
      exact x_iret 17 dX8_isKind_17 .boolean rfl rfl (Nat.le_of_ble_eq_true rfl) (Nat.le_of_ble_eq_true rfl) ⟨rfl, rfl⟩

theorem ct_X8_isKind (l : Launch) {v0 : Int32} {M : XM} {q : Int32 × XM} (H : f_X8_isKind v0 M = some q) : Ct l m_X8_isKind 1 0 0 [(.int v0)] M (x_Ri q) := x_met l m_X8_isKind 1 0 0 [(.int v0)] M (x_Ri q) _ rfl rfl (Nat.le_of_ble_eq_true rfl) (t_X8_isKind l H)
theorem lk_85 : Cond.initialized RX8 ∈ x_TB := x_tb (k := 85) (by decide +kernel) rfl
theorem lk_501 : Cond.code yX8_isKind cX8_isKind 1 (some .boolean) ∈ x_TB := x_tb (k := 501) (by decide +kernel) rfl
theorem lk_499 : Cond.methodLink RX8 139 yX8_isKind ∈ x_TB := x_tb (k := 499) (by decide +kernel) rfl
theorem lk_500 : Cond.static yX8_isKind ∈ x_TB := x_tb (k := 500) (by decide +kernel) rfl
abbrev m_X8_above : XU := (yX8_above, cX8_above, 1, (some .int))
theorem cn_X8_above : m_X8_above.1.cls ≠ "java/lang/invoke/MethodHandle" ∧ m_X8_above.1.cls ≠ "java/lang/invoke/VarHandle" ∧ (parseMethodDescriptor m_X8_above.1.desc).map (fun q => q.parameters.length) = some 1 := by decide +kernel
def f_X8_above (v0 : Int32) (M : XM) : Option (Int32 × XM) :=
  x_bd (f_X8_isKind v0 M) (fun r2 M1 => if r2 = 0 then (some ((-1 : Int32), M1)) else (if x_at M1 2 5 v0 = true then (some ((x_i M1 2 v0.toNatClampNeg), M1)) else none))
set_option maxRecDepth 20000 in
set_option maxHeartbeats 4000000 in
theorem t_X8_above (l : Launch) {v0 : Int32} {M : XM} {q : Int32 × XM} (H : f_X8_above v0 M = some q) : AW l m_X8_above 2 0 0 (x_Ri q) 0 0 0 [some (.int v0)] [] M := by
  unfold f_X8_above at H
  refine x_iload_n 0 0 dX8_above_0 rfl rfl ?_
  obtain ⟨r2, M1, e3, H⟩ := x_bd_of H
  refine x_callS 1 139 [(.int v0)] [] dX8_above_1 (ct_X8_isKind l e3) lk_499 lk_500 lk_85 lk_501 ⟨cn_X8_isKind, (by decide), by decide⟩ rfl (Nat.le_of_ble_eq_true rfl) (Nat.le_of_ble_eq_true rfl) (Nat.le_of_ble_eq_true rfl) (x_ri ?_)
  refine x_if_eq 4 15 dX8_above_4 (by decide) (fun c4 => ?_) (fun c4 => ?_)
  · replace H := x_ifp c4 H
    refine x_iconst 15 (-1 : Int32) dX8_above_15 (by decide) ?_
    cases H
    exact x_iret 16 dX8_above_16 .int rfl rfl (Nat.le_of_ble_eq_true rfl) (Nat.le_of_ble_eq_true rfl) ⟨rfl, rfl⟩
  · replace H := x_ifn c4 H
    refine x_gets 7 351 2 "ABOVE" "[I" dX8_above_7 "WhatDidYouSay" x_ZA lk_502 ?_
    refine x_iload_n 10 0 dX8_above_10 rfl rfl ?_
    obtain ⟨h5, H⟩ := x_ckp H
    refine x_siald 11 dX8_above_11 h5 (by decide) ?_
    refine x_goto 12 16 dX8_above_12 (by decide) ?_
    cases H
    exact x_iret 16 dX8_above_16 .int rfl rfl (Nat.le_of_ble_eq_true rfl) (Nat.le_of_ble_eq_true rfl) ⟨rfl, rfl⟩

theorem ct_X8_above (l : Launch) {v0 : Int32} {M : XM} {q : Int32 × XM} (H : f_X8_above v0 M = some q) : Ct l m_X8_above 2 0 0 [(.int v0)] M (x_Ri q) := x_met l m_X8_above 2 0 0 [(.int v0)] M (x_Ri q) _ rfl rfl (Nat.le_of_ble_eq_true rfl) (t_X8_above l H)
theorem lk_987 : Cond.code yX8_above cX8_above 1 (some .int) ∈ x_TB := x_tb (k := 987) (by decide +kernel) rfl
theorem lk_986 : Cond.static yX8_above ∈ x_TB := x_tb (k := 986) (by decide +kernel) rfl
theorem lk_980 : Cond.code yX0_doCounts cX0_doCounts 3 (some .int) ∈ x_TB := x_tb (k := 980) (by decide +kernel) rfl
theorem lk_977 : Cond.methodLink RX0 32 yX0_doCounts ∈ x_TB := x_tb (k := 977) (by decide +kernel) rfl
theorem lk_31 : Cond.selects RX0 yX0_doCounts yX0_doCounts ∈ x_TB := x_tb (k := 31) (by decide +kernel) rfl
theorem lk_979 : Cond.instanceMethod yX0_doCounts ∈ x_TB := x_tb (k := 979) (by decide +kernel) rfl
abbrev m_X0_doCounts : XU := (yX0_doCounts, cX0_doCounts, 3, (some .int))
theorem cn_X0_doCounts : m_X0_doCounts.1.cls ≠ "java/lang/invoke/MethodHandle" ∧ m_X0_doCounts.1.cls ≠ "java/lang/invoke/VarHandle" ∧ (parseMethodDescriptor m_X0_doCounts.1.desc).map (fun q => q.parameters.length) = some 2 := by decide +kernel
def f_X0_doCounts_117 (κr : Nat → Int32 → Int32 → XM → Option (Int32 × XM)) (v0 : Nat) (v1 : Int32) (v2 : Int32) (M : XM) : Option (Int32 × XM) :=
  x_bd (f_X8_isKind v1 M) (fun r46 M45 => if r46 = 0 then (some ((0 : Int32), M45)) else (x_bd (f_X8_above v1 M45) (fun r50 M49 => if x_tag M49 v0 = 0 + 10 then (x_bd (κr v0 r50 v2 M49) (fun r54 M53 => some (r54, M53))) else none)))
set_option maxRecDepth 20000 in
set_option maxHeartbeats 4000000 in
theorem t_X0_doCounts_117 (l : Launch) {r : Nat} {κr : Nat → Int32 → Int32 → XM → Option (Int32 × XM)} {v0 : Nat} {v1 : Int32} {v2 : Int32} {M : XM} {q : Int32 × XM} (hκr : ∀ {v0 : Nat} {v1 : Int32} {v2 : Int32} {M : XM} {q : Int32 × XM}, κr v0 v1 v2 M = some q → Ct l m_X0_doCounts (3 + r) 0 0 [(.ref v0), (.int v1), (.int v2)] M (x_Ri q)) (H : f_X0_doCounts_117 κr v0 v1 v2 M = some q) : AW l m_X0_doCounts (3 + (r + 1)) 0 0 (x_Ri q) 0 0 117 [some (.ref v0), some (.int v1), some (.int v2)] [] M := by
  unfold f_X0_doCounts_117 at H
  refine x_iload_n 117 1 dX0_doCounts_117 rfl rfl ?_
  obtain ⟨r46, M45, e47, H⟩ := x_bd_of H
  refine x_callSN 118 50 [(.int v1)] [] dX0_doCounts_118 (ct_X8_isKind l e47) (List.mem_of_getElem? (i := 13) rfl) lk_500 lk_85 lk_501 ⟨cn_X8_isKind, (by omega), by decide⟩ rfl (Nat.le_of_ble_eq_true rfl) (Nat.le_of_ble_eq_true rfl) (Nat.le_of_ble_eq_true rfl) (x_ri ?_)
  refine x_if_eq 121 136 dX0_doCounts_121 (by decide) (fun c48 => ?_) (fun c48 => ?_)
  · replace H := x_ifp c48 H
    refine x_iconst 136 (0 : Int32) dX0_doCounts_136 (by decide) ?_
    cases H
    exact x_iret 137 dX0_doCounts_137 .int rfl rfl (Nat.le_of_ble_eq_true rfl) (Nat.le_of_ble_eq_true rfl) ⟨rfl, rfl⟩
  · replace H := x_ifn c48 H
    refine x_aload_n 124 0 dX0_doCounts_124 rfl rfl ?_
    refine x_iload_n 125 1 dX0_doCounts_125 rfl rfl ?_
    obtain ⟨r50, M49, e51, H⟩ := x_bd_of H
    refine x_callSN 126 46 [(.int v1)] [(.ref v0)] dX0_doCounts_126 (ct_X8_above l e51) (List.mem_of_getElem? (i := 12) rfl) lk_986 lk_85 lk_987 ⟨cn_X8_above, (by omega), by decide⟩ rfl (Nat.le_of_ble_eq_true rfl) (Nat.le_of_ble_eq_true rfl) (Nat.le_of_ble_eq_true rfl) (x_ri ?_)
    refine x_iload_n 129 2 dX0_doCounts_129 rfl rfl ?_
    obtain ⟨h52, H⟩ := x_ckp H
    obtain ⟨r54, M53, e55, H⟩ := x_bd_of H
    refine x_callV 130 32 0 [(.int r50), (.int v2)] [] dX0_doCounts_130 (hκr e55) lk_977 lk_979 lk_31 (by decide) h52 lk_92 lk_980 ⟨cn_X0_doCounts, (by omega), by decide⟩ rfl (Nat.le_of_ble_eq_true rfl) (Nat.le_of_ble_eq_true rfl) (Nat.le_of_ble_eq_true rfl) (x_ri ?_)
    refine x_goto 133 137 dX0_doCounts_133 (by decide) ?_
    cases H
    exact x_iret 137 dX0_doCounts_137 .int rfl rfl (Nat.le_of_ble_eq_true rfl) (Nat.le_of_ble_eq_true rfl) ⟨rfl, rfl⟩

def bd_X0_doCounts (κr : Nat → Int32 → Int32 → XM → Option (Int32 × XM)) (v0 : Nat) (v1 : Int32) (v2 : Int32) (M : XM) : Option (Int32 × XM) :=
  if v1 = (0 : Int32) then (if x_tag M v0 = 0 + 10 then (x_bv (f_X0_begin v0 (10 : Int32) M) (fun M3 => if x_tag M3 v0 = 0 + 10 then (some ((v2 + (x_i M3 v0 3)), M3)) else none)) else none) else if v1 = (1 : Int32) then (if x_tag M v0 = 0 + 10 then (x_bv (f_X0_begin v0 (20 : Int32) M) (fun M9 => x_bd (f_X8_above v1 M9) (fun r13 M12 => if x_tag M12 v0 = 0 + 10 then (x_bd (κr v0 r13 v2 M12) (fun r17 M16 => if x_tag M16 v0 = 0 + 10 then (some ((r17 + (x_i M16 v0 4)), M16)) else none)) else none))) else none) else if v1 = (4 : Int32) then (if x_tag M v0 = 0 + 10 then (x_bv (f_X0_begin v0 (51 : Int32) M) (fun M22 => x_bd (f_X8_above v1 M22) (fun r26 M25 => if x_tag M25 v0 = 0 + 10 then (x_bd (κr v0 r26 v2 M25) (fun r30 M29 => if x_tag M29 v0 = 0 + 10 then (some ((r30 - (x_i M29 v0 3)), M29)) else none)) else none))) else none) else if v1 = (6 : Int32) then (if x_tag M v0 = 0 + 10 then (x_bv (f_X0_begin v0 (70 : Int32) M) (fun M35 => x_bd (f_X8_above v1 M35) (fun r39 M38 => if x_tag M38 v0 = 0 + 10 then (x_bd (κr v0 r39 v2 M38) (fun r43 M42 => some ((r43 * (2 : Int32)), M42))) else none))) else none) else f_X0_doCounts_117 κr v0 v1 v2 M
set_option maxRecDepth 20000 in
set_option maxHeartbeats 4000000 in
theorem t0_X0_doCounts (l : Launch) {r : Nat} {κr : Nat → Int32 → Int32 → XM → Option (Int32 × XM)} {v0 : Nat} {v1 : Int32} {v2 : Int32} {M : XM} {q : Int32 × XM} (hκr : ∀ {v0 : Nat} {v1 : Int32} {v2 : Int32} {M : XM} {q : Int32 × XM}, κr v0 v1 v2 M = some q → Ct l m_X0_doCounts (3 + r) 0 0 [(.ref v0), (.int v1), (.int v2)] M (x_Ri q)) (H : bd_X0_doCounts κr v0 v1 v2 M = some q) : AW l m_X0_doCounts (3 + (r + 1)) 0 0 (x_Ri q) 0 0 0 [some (.ref v0), some (.int v1), some (.int v2)] [] M := by
  unfold bd_X0_doCounts at H
  refine x_iload_n 0 1 dX0_doCounts_0 rfl rfl ?_
  by_cases c1 : v1 = (0 : Int32)
  · replace H := x_ifp c1 H
    refine x_tableIn (off := 43) 1 44 dX0_doCounts_1 (by rw [c1]; decide) (by rw [c1]; decide) (by rw [c1]; rfl) (by decide) ?_
    refine x_aload_n 44 0 dX0_doCounts_44 rfl rfl ?_
    refine x_bipush 45 (10 : Int32) dX0_doCounts_45 (by decide) ?_
    obtain ⟨h2, H⟩ := x_ckp H
    obtain ⟨M3, e5, H⟩ := x_bv_of H
    refine x_callV 47 42 0 [(.int (10 : Int32))] [] dX0_doCounts_47 (ct_X0_begin l e5) lk_981 lk_983 lk_32 (by decide) h2 lk_92 lk_984 ⟨cn_X0_begin, (by omega), by decide⟩ rfl (Nat.le_of_ble_eq_true rfl) (Nat.le_of_ble_eq_true rfl) (Nat.le_of_ble_eq_true rfl) (x_rv ?_)
    refine x_iload_n 50 2 dX0_doCounts_50 rfl rfl ?_
    refine x_aload_n 51 0 dX0_doCounts_51 rfl rfl ?_
    obtain ⟨h6, H⟩ := x_ckp H
    refine x_getf 52 25 0 3 (.int (x_i M3 v0 3)) dX0_doCounts_52 lk_321 (by decide) (by decide) rfl (fun _ => rfl) h6 ?_
    refine x_iadd 55 dX0_doCounts_55 ?_
    cases H
    exact x_iret 56 dX0_doCounts_56 .int rfl rfl (Nat.le_of_ble_eq_true rfl) (Nat.le_of_ble_eq_true rfl) ⟨rfl, rfl⟩
  · replace H := x_ifn c1 H
    by_cases c7 : v1 = (1 : Int32)
    · replace H := x_ifp c7 H
      refine x_tableIn (off := 56) 1 57 dX0_doCounts_1 (by rw [c7]; decide) (by rw [c7]; decide) (by rw [c7]; rfl) (by decide) ?_
      refine x_aload_n 57 0 dX0_doCounts_57 rfl rfl ?_
      refine x_bipush 58 (20 : Int32) dX0_doCounts_58 (by decide) ?_
      obtain ⟨h8, H⟩ := x_ckp H
      obtain ⟨M9, e11, H⟩ := x_bv_of H
      refine x_callV 60 42 0 [(.int (20 : Int32))] [] dX0_doCounts_60 (ct_X0_begin l e11) lk_981 lk_983 lk_32 (by decide) h8 lk_92 lk_984 ⟨cn_X0_begin, (by omega), by decide⟩ rfl (Nat.le_of_ble_eq_true rfl) (Nat.le_of_ble_eq_true rfl) (Nat.le_of_ble_eq_true rfl) (x_rv ?_)
      refine x_aload_n 63 0 dX0_doCounts_63 rfl rfl ?_
      refine x_iload_n 64 1 dX0_doCounts_64 rfl rfl ?_
      obtain ⟨r13, M12, e14, H⟩ := x_bd_of H
      refine x_callSN 65 46 [(.int v1)] [(.ref v0)] dX0_doCounts_65 (ct_X8_above l e14) (List.mem_of_getElem? (i := 12) rfl) lk_986 lk_85 lk_987 ⟨cn_X8_above, (by omega), by decide⟩ rfl (Nat.le_of_ble_eq_true rfl) (Nat.le_of_ble_eq_true rfl) (Nat.le_of_ble_eq_true rfl) (x_ri ?_)
      refine x_iload_n 68 2 dX0_doCounts_68 rfl rfl ?_
      obtain ⟨h15, H⟩ := x_ckp H
      obtain ⟨r17, M16, e18, H⟩ := x_bd_of H
      refine x_callV 69 32 0 [(.int r13), (.int v2)] [] dX0_doCounts_69 (hκr e18) lk_977 lk_979 lk_31 (by decide) h15 lk_92 lk_980 ⟨cn_X0_doCounts, (by omega), by decide⟩ rfl (Nat.le_of_ble_eq_true rfl) (Nat.le_of_ble_eq_true rfl) (Nat.le_of_ble_eq_true rfl) (x_ri ?_)
      refine x_aload_n 72 0 dX0_doCounts_72 rfl rfl ?_
      obtain ⟨h19, H⟩ := x_ckp H
      refine x_getf 73 31 0 4 (.int (x_i M16 v0 4)) dX0_doCounts_73 lk_322 (by decide) (by decide) rfl (fun _ => rfl) h19 ?_
      refine x_iadd 76 dX0_doCounts_76 ?_
      cases H
      exact x_iret 77 dX0_doCounts_77 .int rfl rfl (Nat.le_of_ble_eq_true rfl) (Nat.le_of_ble_eq_true rfl) ⟨rfl, rfl⟩
    · replace H := x_ifn c7 H
      by_cases c20 : v1 = (4 : Int32)
      · replace H := x_ifp c20 H
        refine x_tableIn (off := 77) 1 78 dX0_doCounts_1 (by rw [c20]; decide) (by rw [c20]; decide) (by rw [c20]; rfl) (by decide) ?_
        refine x_aload_n 78 0 dX0_doCounts_78 rfl rfl ?_
        refine x_bipush 79 (51 : Int32) dX0_doCounts_79 (by decide) ?_
        obtain ⟨h21, H⟩ := x_ckp H
        obtain ⟨M22, e24, H⟩ := x_bv_of H
        refine x_callV 81 42 0 [(.int (51 : Int32))] [] dX0_doCounts_81 (ct_X0_begin l e24) lk_981 lk_983 lk_32 (by decide) h21 lk_92 lk_984 ⟨cn_X0_begin, (by omega), by decide⟩ rfl (Nat.le_of_ble_eq_true rfl) (Nat.le_of_ble_eq_true rfl) (Nat.le_of_ble_eq_true rfl) (x_rv ?_)
        refine x_aload_n 84 0 dX0_doCounts_84 rfl rfl ?_
        refine x_iload_n 85 1 dX0_doCounts_85 rfl rfl ?_
        obtain ⟨r26, M25, e27, H⟩ := x_bd_of H
        refine x_callSN 86 46 [(.int v1)] [(.ref v0)] dX0_doCounts_86 (ct_X8_above l e27) (List.mem_of_getElem? (i := 12) rfl) lk_986 lk_85 lk_987 ⟨cn_X8_above, (by omega), by decide⟩ rfl (Nat.le_of_ble_eq_true rfl) (Nat.le_of_ble_eq_true rfl) (Nat.le_of_ble_eq_true rfl) (x_ri ?_)
        refine x_iload_n 89 2 dX0_doCounts_89 rfl rfl ?_
        obtain ⟨h28, H⟩ := x_ckp H
        obtain ⟨r30, M29, e31, H⟩ := x_bd_of H
        refine x_callV 90 32 0 [(.int r26), (.int v2)] [] dX0_doCounts_90 (hκr e31) lk_977 lk_979 lk_31 (by decide) h28 lk_92 lk_980 ⟨cn_X0_doCounts, (by omega), by decide⟩ rfl (Nat.le_of_ble_eq_true rfl) (Nat.le_of_ble_eq_true rfl) (Nat.le_of_ble_eq_true rfl) (x_ri ?_)
        refine x_aload_n 93 0 dX0_doCounts_93 rfl rfl ?_
        obtain ⟨h32, H⟩ := x_ckp H
        refine x_getf 94 25 0 3 (.int (x_i M29 v0 3)) dX0_doCounts_94 lk_321 (by decide) (by decide) rfl (fun _ => rfl) h32 ?_
        refine x_isub 97 dX0_doCounts_97 ?_
        cases H
        exact x_iret 98 dX0_doCounts_98 .int rfl rfl (Nat.le_of_ble_eq_true rfl) (Nat.le_of_ble_eq_true rfl) ⟨rfl, rfl⟩
      · replace H := x_ifn c20 H
        by_cases c33 : v1 = (6 : Int32)
        · replace H := x_ifp c33 H
          refine x_tableIn (off := 98) 1 99 dX0_doCounts_1 (by rw [c33]; decide) (by rw [c33]; decide) (by rw [c33]; rfl) (by decide) ?_
          refine x_aload_n 99 0 dX0_doCounts_99 rfl rfl ?_
          refine x_bipush 100 (70 : Int32) dX0_doCounts_100 (by decide) ?_
          obtain ⟨h34, H⟩ := x_ckp H
          obtain ⟨M35, e37, H⟩ := x_bv_of H
          refine x_callV 102 42 0 [(.int (70 : Int32))] [] dX0_doCounts_102 (ct_X0_begin l e37) lk_981 lk_983 lk_32 (by decide) h34 lk_92 lk_984 ⟨cn_X0_begin, (by omega), by decide⟩ rfl (Nat.le_of_ble_eq_true rfl) (Nat.le_of_ble_eq_true rfl) (Nat.le_of_ble_eq_true rfl) (x_rv ?_)
          refine x_aload_n 105 0 dX0_doCounts_105 rfl rfl ?_
          refine x_iload_n 106 1 dX0_doCounts_106 rfl rfl ?_
          obtain ⟨r39, M38, e40, H⟩ := x_bd_of H
          refine x_callSN 107 46 [(.int v1)] [(.ref v0)] dX0_doCounts_107 (ct_X8_above l e40) (List.mem_of_getElem? (i := 12) rfl) lk_986 lk_85 lk_987 ⟨cn_X8_above, (by omega), by decide⟩ rfl (Nat.le_of_ble_eq_true rfl) (Nat.le_of_ble_eq_true rfl) (Nat.le_of_ble_eq_true rfl) (x_ri ?_)
          refine x_iload_n 110 2 dX0_doCounts_110 rfl rfl ?_
          obtain ⟨h41, H⟩ := x_ckp H
          obtain ⟨r43, M42, e44, H⟩ := x_bd_of H
          refine x_callV 111 32 0 [(.int r39), (.int v2)] [] dX0_doCounts_111 (hκr e44) lk_977 lk_979 lk_31 (by decide) h41 lk_92 lk_980 ⟨cn_X0_doCounts, (by omega), by decide⟩ rfl (Nat.le_of_ble_eq_true rfl) (Nat.le_of_ble_eq_true rfl) (Nat.le_of_ble_eq_true rfl) (x_ri ?_)
          refine x_iconst 114 (2 : Int32) dX0_doCounts_114 (by decide) ?_
          refine x_imul 115 dX0_doCounts_115 ?_
          cases H
          exact x_iret 116 dX0_doCounts_116 .int rfl rfl (Nat.le_of_ble_eq_true rfl) (Nat.le_of_ble_eq_true rfl) ⟨rfl, rfl⟩
        · replace H := x_ifn c33 H
          have hd0 : AW l m_X0_doCounts (3 + (r + 1)) 0 0 (x_Ri q) 0 0 117 [some (.ref v0), some (.int v1), some (.int v2)] [] M := by
            skip
            exact t_X0_doCounts_117 l hκr H
          by_cases c56 : v1 = (2 : Int32)
          · exact x_tableIn (off := 116) 1 117 dX0_doCounts_1 (by rw [c56]; decide) (by rw [c56]; decide) (by rw [c56]; rfl) (by decide) hd0
          by_cases c57 : v1 = (3 : Int32)
          · exact x_tableIn (off := 116) 1 117 dX0_doCounts_1 (by rw [c57]; decide) (by rw [c57]; decide) (by rw [c57]; rfl) (by decide) hd0
          by_cases c58 : v1 = (5 : Int32)
          · exact x_tableIn (off := 116) 1 117 dX0_doCounts_1 (by rw [c58]; decide) (by rw [c58]; decide) (by rw [c58]; rfl) (by decide) hd0
          exact x_tableOut 1 117 dX0_doCounts_1 (by have n0 := lv_neT (a := 0) c1 (by decide); have n1 := lv_neT (a := 1) c7 (by decide); have n2 := lv_neT (a := 4) c20 (by decide); have n3 := lv_neT (a := 6) c33 (by decide); have n4 := lv_neT (a := 2) c56 (by decide); have n5 := lv_neT (a := 3) c57 (by decide); have n6 := lv_neT (a := 5) c58 (by decide); omega) (by decide) hd0

def f_X0_doCounts (r : Nat) : Nat → Int32 → Int32 → XM → Option (Int32 × XM) := x_rec (fun _ _ _ _ => none) bd_X0_doCounts r
theorem ct_X0_doCounts (l : Launch) : ∀ (r : Nat) {v0 : Nat} {v1 : Int32} {v2 : Int32} {M : XM} {q : Int32 × XM}, f_X0_doCounts r v0 v1 v2 M = some q → Ct l m_X0_doCounts (3 + r) 0 0 [(.ref v0), (.int v1), (.int v2)] M (x_Ri q) := by
  intro r
  induction r with
  | zero => intro v0 v1 v2 M q H; cases H
  | succ r ih => intro v0 v1 v2 M q H; exact x_met l m_X0_doCounts (3 + (r + 1)) 0 0 [(.ref v0), (.int v1), (.int v2)] M (x_Ri q) _ rfl rfl (Nat.le_of_ble_eq_true rfl) (t0_X0_doCounts l ih H)
theorem lk_992 : Cond.code yX0_doAsks cX0_doAsks 3 (some .int) ∈ x_TB := x_tb (k := 992) (by decide +kernel) rfl
theorem lk_989 : Cond.methodLink RX0 36 yX0_doAsks ∈ x_TB := x_tb (k := 989) (by decide +kernel) rfl
theorem lk_33 : Cond.selects RX0 yX0_doAsks yX0_doAsks ∈ x_TB := x_tb (k := 33) (by decide +kernel) rfl
theorem lk_991 : Cond.instanceMethod yX0_doAsks ∈ x_TB := x_tb (k := 991) (by decide +kernel) rfl
abbrev m_X0_doAsks : XU := (yX0_doAsks, cX0_doAsks, 3, (some .int))
theorem cn_X0_doAsks : m_X0_doAsks.1.cls ≠ "java/lang/invoke/MethodHandle" ∧ m_X0_doAsks.1.cls ≠ "java/lang/invoke/VarHandle" ∧ (parseMethodDescriptor m_X0_doAsks.1.desc).map (fun q => q.parameters.length) = some 2 := by decide +kernel
def f_X0_doAsks_119 (κr : Nat → Int32 → Int32 → XM → Option (Int32 × XM)) (v0 : Nat) (v1 : Int32) (v2 : Int32) (M : XM) : Option (Int32 × XM) :=
  x_bd (f_X8_isKind v1 M) (fun r47 M46 => if r47 = 0 then (some ((0 : Int32), M46)) else (x_bd (f_X8_above v1 M46) (fun r51 M50 => if x_tag M50 v0 = 0 + 10 then (x_bd (κr v0 r51 v2 M50) (fun r55 M54 => some (r55, M54))) else none)))
set_option maxRecDepth 20000 in
set_option maxHeartbeats 4000000 in
theorem t_X0_doAsks_119 (l : Launch) {r : Nat} {κr : Nat → Int32 → Int32 → XM → Option (Int32 × XM)} {v0 : Nat} {v1 : Int32} {v2 : Int32} {M : XM} {q : Int32 × XM} (hκr : ∀ {v0 : Nat} {v1 : Int32} {v2 : Int32} {M : XM} {q : Int32 × XM}, κr v0 v1 v2 M = some q → Ct l m_X0_doAsks (12 + r) 0 0 [(.ref v0), (.int v1), (.int v2)] M (x_Ri q)) (H : f_X0_doAsks_119 κr v0 v1 v2 M = some q) : AW l m_X0_doAsks (12 + (r + 1)) 0 0 (x_Ri q) 0 0 119 [some (.ref v0), some (.int v1), some (.int v2)] [] M := by
  unfold f_X0_doAsks_119 at H
  refine x_iload_n 119 1 dX0_doAsks_119 rfl rfl ?_
  obtain ⟨r47, M46, e48, H⟩ := x_bd_of H
  refine x_callSN 120 50 [(.int v1)] [] dX0_doAsks_120 (ct_X8_isKind l e48) (List.mem_of_getElem? (i := 13) rfl) lk_500 lk_85 lk_501 ⟨cn_X8_isKind, (by omega), by decide⟩ rfl (Nat.le_of_ble_eq_true rfl) (Nat.le_of_ble_eq_true rfl) (Nat.le_of_ble_eq_true rfl) (x_ri ?_)
  refine x_if_eq 123 138 dX0_doAsks_123 (by decide) (fun c49 => ?_) (fun c49 => ?_)
  · replace H := x_ifp c49 H
    refine x_iconst 138 (0 : Int32) dX0_doAsks_138 (by decide) ?_
    cases H
    exact x_iret 139 dX0_doAsks_139 .int rfl rfl (Nat.le_of_ble_eq_true rfl) (Nat.le_of_ble_eq_true rfl) ⟨rfl, rfl⟩
  · replace H := x_ifn c49 H
    refine x_aload_n 126 0 dX0_doAsks_126 rfl rfl ?_
    refine x_iload_n 127 1 dX0_doAsks_127 rfl rfl ?_
    obtain ⟨r51, M50, e52, H⟩ := x_bd_of H
    refine x_callSN 128 46 [(.int v1)] [(.ref v0)] dX0_doAsks_128 (ct_X8_above l e52) (List.mem_of_getElem? (i := 12) rfl) lk_986 lk_85 lk_987 ⟨cn_X8_above, (by omega), by decide⟩ rfl (Nat.le_of_ble_eq_true rfl) (Nat.le_of_ble_eq_true rfl) (Nat.le_of_ble_eq_true rfl) (x_ri ?_)
    refine x_iload_n 131 2 dX0_doAsks_131 rfl rfl ?_
    obtain ⟨h53, H⟩ := x_ckp H
    obtain ⟨r55, M54, e56, H⟩ := x_bd_of H
    refine x_callV 132 36 0 [(.int r51), (.int v2)] [] dX0_doAsks_132 (hκr e56) lk_989 lk_991 lk_33 (by decide) h53 lk_92 lk_992 ⟨cn_X0_doAsks, (by omega), by decide⟩ rfl (Nat.le_of_ble_eq_true rfl) (Nat.le_of_ble_eq_true rfl) (Nat.le_of_ble_eq_true rfl) (x_ri ?_)
    refine x_goto 135 139 dX0_doAsks_135 (by decide) ?_
    cases H
    exact x_iret 139 dX0_doAsks_139 .int rfl rfl (Nat.le_of_ble_eq_true rfl) (Nat.le_of_ble_eq_true rfl) ⟨rfl, rfl⟩

def bd_X0_doAsks (κr : Nat → Int32 → Int32 → XM → Option (Int32 × XM)) (v0 : Nat) (v1 : Int32) (v2 : Int32) (M : XM) : Option (Int32 × XM) :=
  if v1 = (0 : Int32) then (if x_tag M v0 = 0 + 10 then (x_bv (f_X0_begin v0 (11 : Int32) M) (fun M3 => if x_tag M3 v0 = 0 + 10 then (x_bd (f_X0_doCounts 8 v0 (x_i M3 v0 2) v2 M3) (fun r8 M7 => some ((r8 * (2 : Int32)), M7))) else none)) else none) else if v1 = (2 : Int32) then (if x_tag M v0 = 0 + 10 then (x_bv (f_X0_begin v0 (30 : Int32) M) (fun M12 => x_bd (f_X8_above v1 M12) (fun r16 M15 => if x_tag M15 v0 = 0 + 10 then (x_bd (κr v0 r16 v2 M15) (fun r20 M19 => some ((r20 * (3 : Int32)), M19))) else none))) else none) else if v1 = (3 : Int32) then (if x_tag M v0 = 0 + 10 then (x_bv (f_X0_begin v0 (40 : Int32) M) (fun M24 => x_bd (f_X8_above v1 M24) (fun r28 M27 => if x_tag M27 v0 = 0 + 10 then (x_bd (κr v0 r28 (v2 + (1 : Int32)) M27) (fun r32 M31 => some (r32, M31))) else none))) else none) else if v1 = (6 : Int32) then (if x_tag M v0 = 0 + 10 then (x_bv (f_X0_begin v0 (71 : Int32) M) (fun M36 => x_bd (f_X8_above v1 M36) (fun r40 M39 => if x_tag M39 v0 = 0 + 10 then (x_bd (κr v0 r40 (v2 - (x_i M39 v0 4)) M39) (fun r44 M43 => some (r44, M43))) else none))) else none) else f_X0_doAsks_119 κr v0 v1 v2 M
set_option maxRecDepth 20000 in
set_option maxHeartbeats 4000000 in
theorem t0_X0_doAsks (l : Launch) {r : Nat} {κr : Nat → Int32 → Int32 → XM → Option (Int32 × XM)} {v0 : Nat} {v1 : Int32} {v2 : Int32} {M : XM} {q : Int32 × XM} (hκr : ∀ {v0 : Nat} {v1 : Int32} {v2 : Int32} {M : XM} {q : Int32 × XM}, κr v0 v1 v2 M = some q → Ct l m_X0_doAsks (12 + r) 0 0 [(.ref v0), (.int v1), (.int v2)] M (x_Ri q)) (H : bd_X0_doAsks κr v0 v1 v2 M = some q) : AW l m_X0_doAsks (12 + (r + 1)) 0 0 (x_Ri q) 0 0 0 [some (.ref v0), some (.int v1), some (.int v2)] [] M := by
  unfold bd_X0_doAsks at H
  refine x_iload_n 0 1 dX0_doAsks_0 rfl rfl ?_
  by_cases c1 : v1 = (0 : Int32)
  · replace H := x_ifp c1 H
    refine x_tableIn (off := 43) 1 44 dX0_doAsks_1 (by rw [c1]; decide) (by rw [c1]; decide) (by rw [c1]; rfl) (by decide) ?_
    refine x_aload_n 44 0 dX0_doAsks_44 rfl rfl ?_
    refine x_bipush 45 (11 : Int32) dX0_doAsks_45 (by decide) ?_
    obtain ⟨h2, H⟩ := x_ckp H
    obtain ⟨M3, e5, H⟩ := x_bv_of H
    refine x_callV 47 42 0 [(.int (11 : Int32))] [] dX0_doAsks_47 (ct_X0_begin l e5) lk_981 lk_983 lk_32 (by decide) h2 lk_92 lk_984 ⟨cn_X0_begin, (by omega), by decide⟩ rfl (Nat.le_of_ble_eq_true rfl) (Nat.le_of_ble_eq_true rfl) (Nat.le_of_ble_eq_true rfl) (x_rv ?_)
    refine x_aload_n 50 0 dX0_doAsks_50 rfl rfl ?_
    refine x_aload_n 51 0 dX0_doAsks_51 rfl rfl ?_
    obtain ⟨h6, H⟩ := x_ckp H
    refine x_getf 52 24 0 2 (.int (x_i M3 v0 2)) dX0_doAsks_52 lk_320 (by decide) (by decide) rfl (fun _ => rfl) h6 ?_
    refine x_iload_n 55 2 dX0_doAsks_55 rfl rfl ?_
    obtain ⟨r8, M7, e9, H⟩ := x_bd_of H
    refine x_callV 56 32 0 [(.int (x_i M3 v0 2)), (.int v2)] [] dX0_doAsks_56 (ct_X0_doCounts l 8 e9) lk_977 lk_979 lk_31 (by decide) h6 lk_92 lk_980 ⟨cn_X0_doCounts, (by omega), by decide⟩ rfl (Nat.le_of_ble_eq_true rfl) (Nat.le_of_ble_eq_true rfl) (Nat.le_of_ble_eq_true rfl) (x_ri ?_)
    refine x_iconst 59 (2 : Int32) dX0_doAsks_59 (by decide) ?_
    refine x_imul 60 dX0_doAsks_60 ?_
    cases H
    exact x_iret 61 dX0_doAsks_61 .int rfl rfl (Nat.le_of_ble_eq_true rfl) (Nat.le_of_ble_eq_true rfl) ⟨rfl, rfl⟩
  · replace H := x_ifn c1 H
    by_cases c10 : v1 = (2 : Int32)
    · replace H := x_ifp c10 H
      refine x_tableIn (off := 61) 1 62 dX0_doAsks_1 (by rw [c10]; decide) (by rw [c10]; decide) (by rw [c10]; rfl) (by decide) ?_
      refine x_aload_n 62 0 dX0_doAsks_62 rfl rfl ?_
      refine x_bipush 63 (30 : Int32) dX0_doAsks_63 (by decide) ?_
      obtain ⟨h11, H⟩ := x_ckp H
      obtain ⟨M12, e14, H⟩ := x_bv_of H
      refine x_callV 65 42 0 [(.int (30 : Int32))] [] dX0_doAsks_65 (ct_X0_begin l e14) lk_981 lk_983 lk_32 (by decide) h11 lk_92 lk_984 ⟨cn_X0_begin, (by omega), by decide⟩ rfl (Nat.le_of_ble_eq_true rfl) (Nat.le_of_ble_eq_true rfl) (Nat.le_of_ble_eq_true rfl) (x_rv ?_)
      refine x_aload_n 68 0 dX0_doAsks_68 rfl rfl ?_
      refine x_iload_n 69 1 dX0_doAsks_69 rfl rfl ?_
      obtain ⟨r16, M15, e17, H⟩ := x_bd_of H
      refine x_callSN 70 46 [(.int v1)] [(.ref v0)] dX0_doAsks_70 (ct_X8_above l e17) (List.mem_of_getElem? (i := 12) rfl) lk_986 lk_85 lk_987 ⟨cn_X8_above, (by omega), by decide⟩ rfl (Nat.le_of_ble_eq_true rfl) (Nat.le_of_ble_eq_true rfl) (Nat.le_of_ble_eq_true rfl) (x_ri ?_)
      refine x_iload_n 73 2 dX0_doAsks_73 rfl rfl ?_
      obtain ⟨h18, H⟩ := x_ckp H
      obtain ⟨r20, M19, e21, H⟩ := x_bd_of H
      refine x_callV 74 36 0 [(.int r16), (.int v2)] [] dX0_doAsks_74 (hκr e21) lk_989 lk_991 lk_33 (by decide) h18 lk_92 lk_992 ⟨cn_X0_doAsks, (by omega), by decide⟩ rfl (Nat.le_of_ble_eq_true rfl) (Nat.le_of_ble_eq_true rfl) (Nat.le_of_ble_eq_true rfl) (x_ri ?_)
      refine x_iconst 77 (3 : Int32) dX0_doAsks_77 (by decide) ?_
      refine x_imul 78 dX0_doAsks_78 ?_
      cases H
      exact x_iret 79 dX0_doAsks_79 .int rfl rfl (Nat.le_of_ble_eq_true rfl) (Nat.le_of_ble_eq_true rfl) ⟨rfl, rfl⟩
    · replace H := x_ifn c10 H
      by_cases c22 : v1 = (3 : Int32)
      · replace H := x_ifp c22 H
        refine x_tableIn (off := 79) 1 80 dX0_doAsks_1 (by rw [c22]; decide) (by rw [c22]; decide) (by rw [c22]; rfl) (by decide) ?_
        refine x_aload_n 80 0 dX0_doAsks_80 rfl rfl ?_
        refine x_bipush 81 (40 : Int32) dX0_doAsks_81 (by decide) ?_
        obtain ⟨h23, H⟩ := x_ckp H
        obtain ⟨M24, e26, H⟩ := x_bv_of H
        refine x_callV 83 42 0 [(.int (40 : Int32))] [] dX0_doAsks_83 (ct_X0_begin l e26) lk_981 lk_983 lk_32 (by decide) h23 lk_92 lk_984 ⟨cn_X0_begin, (by omega), by decide⟩ rfl (Nat.le_of_ble_eq_true rfl) (Nat.le_of_ble_eq_true rfl) (Nat.le_of_ble_eq_true rfl) (x_rv ?_)
        refine x_aload_n 86 0 dX0_doAsks_86 rfl rfl ?_
        refine x_iload_n 87 1 dX0_doAsks_87 rfl rfl ?_
        obtain ⟨r28, M27, e29, H⟩ := x_bd_of H
        refine x_callSN 88 46 [(.int v1)] [(.ref v0)] dX0_doAsks_88 (ct_X8_above l e29) (List.mem_of_getElem? (i := 12) rfl) lk_986 lk_85 lk_987 ⟨cn_X8_above, (by omega), by decide⟩ rfl (Nat.le_of_ble_eq_true rfl) (Nat.le_of_ble_eq_true rfl) (Nat.le_of_ble_eq_true rfl) (x_ri ?_)
        refine x_iload_n 91 2 dX0_doAsks_91 rfl rfl ?_
        refine x_iconst 92 (1 : Int32) dX0_doAsks_92 (by decide) ?_
        refine x_iadd 93 dX0_doAsks_93 ?_
        obtain ⟨h30, H⟩ := x_ckp H
        obtain ⟨r32, M31, e33, H⟩ := x_bd_of H
        refine x_callV 94 36 0 [(.int r28), (.int (v2 + (1 : Int32)))] [] dX0_doAsks_94 (hκr e33) lk_989 lk_991 lk_33 (by decide) h30 lk_92 lk_992 ⟨cn_X0_doAsks, (by omega), by decide⟩ rfl (Nat.le_of_ble_eq_true rfl) (Nat.le_of_ble_eq_true rfl) (Nat.le_of_ble_eq_true rfl) (x_ri ?_)
        cases H
        exact x_iret 97 dX0_doAsks_97 .int rfl rfl (Nat.le_of_ble_eq_true rfl) (Nat.le_of_ble_eq_true rfl) ⟨rfl, rfl⟩
      · replace H := x_ifn c22 H
        by_cases c34 : v1 = (6 : Int32)
        · replace H := x_ifp c34 H
          refine x_tableIn (off := 97) 1 98 dX0_doAsks_1 (by rw [c34]; decide) (by rw [c34]; decide) (by rw [c34]; rfl) (by decide) ?_
          refine x_aload_n 98 0 dX0_doAsks_98 rfl rfl ?_
          refine x_bipush 99 (71 : Int32) dX0_doAsks_99 (by decide) ?_
          obtain ⟨h35, H⟩ := x_ckp H
          obtain ⟨M36, e38, H⟩ := x_bv_of H
          refine x_callV 101 42 0 [(.int (71 : Int32))] [] dX0_doAsks_101 (ct_X0_begin l e38) lk_981 lk_983 lk_32 (by decide) h35 lk_92 lk_984 ⟨cn_X0_begin, (by omega), by decide⟩ rfl (Nat.le_of_ble_eq_true rfl) (Nat.le_of_ble_eq_true rfl) (Nat.le_of_ble_eq_true rfl) (x_rv ?_)
          refine x_aload_n 104 0 dX0_doAsks_104 rfl rfl ?_
          refine x_iload_n 105 1 dX0_doAsks_105 rfl rfl ?_
          obtain ⟨r40, M39, e41, H⟩ := x_bd_of H
          refine x_callSN 106 46 [(.int v1)] [(.ref v0)] dX0_doAsks_106 (ct_X8_above l e41) (List.mem_of_getElem? (i := 12) rfl) lk_986 lk_85 lk_987 ⟨cn_X8_above, (by omega), by decide⟩ rfl (Nat.le_of_ble_eq_true rfl) (Nat.le_of_ble_eq_true rfl) (Nat.le_of_ble_eq_true rfl) (x_ri ?_)
          refine x_iload_n 109 2 dX0_doAsks_109 rfl rfl ?_
          refine x_aload_n 110 0 dX0_doAsks_110 rfl rfl ?_
          obtain ⟨h42, H⟩ := x_ckp H
          refine x_getf 111 31 0 4 (.int (x_i M39 v0 4)) dX0_doAsks_111 lk_322 (by decide) (by decide) rfl (fun _ => rfl) h42 ?_
          refine x_isub 114 dX0_doAsks_114 ?_
          obtain ⟨r44, M43, e45, H⟩ := x_bd_of H
          refine x_callV 115 36 0 [(.int r40), (.int (v2 - (x_i M39 v0 4)))] [] dX0_doAsks_115 (hκr e45) lk_989 lk_991 lk_33 (by decide) h42 lk_92 lk_992 ⟨cn_X0_doAsks, (by omega), by decide⟩ rfl (Nat.le_of_ble_eq_true rfl) (Nat.le_of_ble_eq_true rfl) (Nat.le_of_ble_eq_true rfl) (x_ri ?_)
          cases H
          exact x_iret 118 dX0_doAsks_118 .int rfl rfl (Nat.le_of_ble_eq_true rfl) (Nat.le_of_ble_eq_true rfl) ⟨rfl, rfl⟩
        · replace H := x_ifn c34 H
          have hd0 : AW l m_X0_doAsks (12 + (r + 1)) 0 0 (x_Ri q) 0 0 119 [some (.ref v0), some (.int v1), some (.int v2)] [] M := by
            skip
            exact t_X0_doAsks_119 l hκr H
          by_cases c57 : v1 = (1 : Int32)
          · exact x_tableIn (off := 118) 1 119 dX0_doAsks_1 (by rw [c57]; decide) (by rw [c57]; decide) (by rw [c57]; rfl) (by decide) hd0
          by_cases c58 : v1 = (4 : Int32)
          · exact x_tableIn (off := 118) 1 119 dX0_doAsks_1 (by rw [c58]; decide) (by rw [c58]; decide) (by rw [c58]; rfl) (by decide) hd0
          by_cases c59 : v1 = (5 : Int32)
          · exact x_tableIn (off := 118) 1 119 dX0_doAsks_1 (by rw [c59]; decide) (by rw [c59]; decide) (by rw [c59]; rfl) (by decide) hd0
          exact x_tableOut 1 119 dX0_doAsks_1 (by have n0 := lv_neT (a := 0) c1 (by decide); have n1 := lv_neT (a := 2) c10 (by decide); have n2 := lv_neT (a := 3) c22 (by decide); have n3 := lv_neT (a := 6) c34 (by decide); have n4 := lv_neT (a := 1) c57 (by decide); have n5 := lv_neT (a := 4) c58 (by decide); have n6 := lv_neT (a := 5) c59 (by decide); omega) (by decide) hd0

def f_X0_doAsks (r : Nat) : Nat → Int32 → Int32 → XM → Option (Int32 × XM) := x_rec (fun _ _ _ _ => none) bd_X0_doAsks r
theorem ct_X0_doAsks (l : Launch) : ∀ (r : Nat) {v0 : Nat} {v1 : Int32} {v2 : Int32} {M : XM} {q : Int32 × XM}, f_X0_doAsks r v0 v1 v2 M = some q → Ct l m_X0_doAsks (12 + r) 0 0 [(.ref v0), (.int v1), (.int v2)] M (x_Ri q) := by
  intro r
  induction r with
  | zero => intro v0 v1 v2 M q H; cases H
  | succ r ih => intro v0 v1 v2 M q H; exact x_met l m_X0_doAsks (12 + (r + 1)) 0 0 [(.ref v0), (.int v1), (.int v2)] M (x_Ri q) _ rfl rfl (Nat.le_of_ble_eq_true rfl) (t0_X0_doAsks l ih H)
abbrev m_X0_endCounter : XU := (yX0_endCounter, cX0_endCounter, 3, (some .int))
theorem cn_X0_endCounter : m_X0_endCounter.1.cls ≠ "java/lang/invoke/MethodHandle" ∧ m_X0_endCounter.1.cls ≠ "java/lang/invoke/VarHandle" ∧ (parseMethodDescriptor m_X0_endCounter.1.desc).map (fun q => q.parameters.length) = some 1 := by decide +kernel
def f_X0_endCounter (v0 : Nat) (v1 : Int32) (M : XM) : Option (Int32 × XM) :=
  if x_tag M v0 = 0 + 10 then (x_bd (f_X0_doAsks 8 v0 (x_i M v0 2) v1 M) (fun r3 M2 => if x_tag M2 v0 = 0 + 10 then (x_bd (f_X0_doCounts 8 v0 (x_i M2 v0 2) (v1 - (x_i M2 v0 4)) M2) (fun r7 M6 => some ((r3 ^^^ r7), M6))) else none)) else none
set_option maxRecDepth 20000 in
set_option maxHeartbeats 4000000 in
theorem t_X0_endCounter (l : Launch) {v0 : Nat} {v1 : Int32} {M : XM} {q : Int32 × XM} (H : f_X0_endCounter v0 v1 M = some q) : AW l m_X0_endCounter 21 0 0 (x_Ri q) 0 0 0 [some (.ref v0), some (.int v1), none] [] M := by
  unfold f_X0_endCounter at H
  refine x_aload_n 0 0 dX0_endCounter_0 rfl rfl ?_
  refine x_aload_n 1 0 dX0_endCounter_1 rfl rfl ?_
  obtain ⟨h1, H⟩ := x_ckp H
  refine x_getf 2 24 0 2 (.int (x_i M v0 2)) dX0_endCounter_2 lk_320 (by decide) (by decide) rfl (fun _ => rfl) h1 ?_
  refine x_iload_n 5 1 dX0_endCounter_5 rfl rfl ?_
  obtain ⟨r3, M2, e4, H⟩ := x_bd_of H
  refine x_callV 6 36 0 [(.int (x_i M v0 2)), (.int v1)] [] dX0_endCounter_6 (ct_X0_doAsks l 8 e4) lk_989 lk_991 lk_33 (by decide) h1 lk_92 lk_992 ⟨cn_X0_doAsks, (by decide), by decide⟩ rfl (Nat.le_of_ble_eq_true rfl) (Nat.le_of_ble_eq_true rfl) (Nat.le_of_ble_eq_true rfl) (x_ri ?_)
  refine x_istore_n 9 2 [some (.ref v0), some (.int v1), some (.int r3)] dX0_endCounter_9 rfl rfl (Nat.le_of_ble_eq_true rfl) rfl ?_
  refine x_iload_n 10 2 dX0_endCounter_10 rfl rfl ?_
  refine x_aload_n 11 0 dX0_endCounter_11 rfl rfl ?_
  refine x_aload_n 12 0 dX0_endCounter_12 rfl rfl ?_
  obtain ⟨h5, H⟩ := x_ckp H
  refine x_getf 13 24 0 2 (.int (x_i M2 v0 2)) dX0_endCounter_13 lk_320 (by decide) (by decide) rfl (fun _ => rfl) h5 ?_
  refine x_iload_n 16 1 dX0_endCounter_16 rfl rfl ?_
  refine x_aload_n 17 0 dX0_endCounter_17 rfl rfl ?_
  refine x_getf 18 31 0 4 (.int (x_i M2 v0 4)) dX0_endCounter_18 lk_322 (by decide) (by decide) rfl (fun _ => rfl) h5 ?_
  refine x_isub 21 dX0_endCounter_21 ?_
  obtain ⟨r7, M6, e8, H⟩ := x_bd_of H
  refine x_callV 22 32 0 [(.int (x_i M2 v0 2)), (.int (v1 - (x_i M2 v0 4)))] [(.int r3)] dX0_endCounter_22 (ct_X0_doCounts l 8 e8) lk_977 lk_979 lk_31 (by decide) h5 lk_92 lk_980 ⟨cn_X0_doCounts, (by decide), by decide⟩ rfl (Nat.le_of_ble_eq_true rfl) (Nat.le_of_ble_eq_true rfl) (Nat.le_of_ble_eq_true rfl) (x_ri ?_)
  refine x_ixor 25 dX0_endCounter_25 ?_
  cases H
  exact x_iret 26 dX0_endCounter_26 .int rfl rfl (Nat.le_of_ble_eq_true rfl) (Nat.le_of_ble_eq_true rfl) ⟨rfl, rfl⟩

theorem ct_X0_endCounter (l : Launch) {v0 : Nat} {v1 : Int32} {M : XM} {q : Int32 × XM} (H : f_X0_endCounter v0 v1 M = some q) : Ct l m_X0_endCounter 21 0 0 [(.ref v0), (.int v1)] M (x_Ri q) := x_met l m_X0_endCounter 21 0 0 [(.ref v0), (.int v1)] M (x_Ri q) _ rfl rfl (Nat.le_of_ble_eq_true rfl) (t_X0_endCounter l H)
theorem lk_1000 : Cond.code yX0_endCounter cX0_endCounter 3 (some .int) ∈ x_TB := x_tb (k := 1000) (by decide +kernel) rfl
theorem lk_997 : Cond.methodLink RX0 54 yX0_endCounter ∈ x_TB := x_tb (k := 997) (by decide +kernel) rfl
theorem lk_35 : Cond.selects RX0 yX0_endCounter yX0_endCounter ∈ x_TB := x_tb (k := 35) (by decide +kernel) rfl
theorem lk_999 : Cond.instanceMethod yX0_endCounter ∈ x_TB := x_tb (k := 999) (by decide +kernel) rfl
theorem lk_996 : Cond.code yX0_doEnds cX0_doEnds 3 (some .int) ∈ x_TB := x_tb (k := 996) (by decide +kernel) rfl
theorem lk_993 : Cond.methodLink RX0 39 yX0_doEnds ∈ x_TB := x_tb (k := 993) (by decide +kernel) rfl
theorem lk_34 : Cond.selects RX0 yX0_doEnds yX0_doEnds ∈ x_TB := x_tb (k := 34) (by decide +kernel) rfl
theorem lk_995 : Cond.instanceMethod yX0_doEnds ∈ x_TB := x_tb (k := 995) (by decide +kernel) rfl
abbrev m_X0_doEnds : XU := (yX0_doEnds, cX0_doEnds, 3, (some .int))
theorem cn_X0_doEnds : m_X0_doEnds.1.cls ≠ "java/lang/invoke/MethodHandle" ∧ m_X0_doEnds.1.cls ≠ "java/lang/invoke/VarHandle" ∧ (parseMethodDescriptor m_X0_doEnds.1.desc).map (fun q => q.parameters.length) = some 2 := by decide +kernel
def bd_X0_doEnds (κr : Nat → Int32 → Int32 → XM → Option (Int32 × XM)) (v0 : Nat) (v1 : Int32) (v2 : Int32) (M : XM) : Option (Int32 × XM) :=
  if v1 = (0 : Int32) then (if x_tag M v0 = 0 + 10 then (x_bv (f_X0_begin v0 (12 : Int32) M) (fun M3 => if x_tag M3 v0 = 0 + 10 then (x_bd (f_X0_endCounter v0 v2 M3) (fun r8 M7 => some (r8, M7))) else none)) else none) else if v1 = (4 : Int32) then (if x_tag M v0 = 0 + 10 then (x_bv (f_X0_begin v0 (50 : Int32) M) (fun M12 => x_bd (f_X8_above v1 M12) (fun r16 M15 => if x_tag M15 v0 = 0 + 10 then (x_bd (κr v0 r16 v2 M15) (fun r20 M19 => some ((-r20), M19))) else none))) else none) else if v1 = (5 : Int32) then (if x_tag M v0 = 0 + 10 then (x_bv (f_X0_begin v0 (60 : Int32) M) (fun M24 => x_bd (f_X8_above v1 M24) (fun r28 M27 => if x_tag M27 v0 = 0 + 10 then (x_bd (κr v0 r28 v2 M27) (fun r32 M31 => some ((r32 ^^^ (5 : Int32)), M31))) else none))) else none) else x_bd (f_X8_isKind v1 M) (fun r35 M34 => if r35 = 0 then (some ((0 : Int32), M34)) else (x_bd (f_X8_above v1 M34) (fun r39 M38 => if x_tag M38 v0 = 0 + 10 then (x_bd (κr v0 r39 v2 M38) (fun r43 M42 => some (r43, M42))) else none)))
set_option maxRecDepth 20000 in
set_option maxHeartbeats 4000000 in
theorem t0_X0_doEnds (l : Launch) {r : Nat} {κr : Nat → Int32 → Int32 → XM → Option (Int32 × XM)} {v0 : Nat} {v1 : Int32} {v2 : Int32} {M : XM} {q : Int32 × XM} (hκr : ∀ {v0 : Nat} {v1 : Int32} {v2 : Int32} {M : XM} {q : Int32 × XM}, κr v0 v1 v2 M = some q → Ct l m_X0_doEnds (22 + r) 0 0 [(.ref v0), (.int v1), (.int v2)] M (x_Ri q)) (H : bd_X0_doEnds κr v0 v1 v2 M = some q) : AW l m_X0_doEnds (22 + (r + 1)) 0 0 (x_Ri q) 0 0 0 [some (.ref v0), some (.int v1), some (.int v2)] [] M := by
  unfold bd_X0_doEnds at H
  refine x_iload_n 0 1 dX0_doEnds_0 rfl rfl ?_
  by_cases c1 : v1 = (0 : Int32)
  · replace H := x_ifp c1 H
    refine x_lookup (off := 35) 1 36 dX0_doEnds_1 (by decide) (by rw [c1]; rfl) (by decide) ?_
    refine x_aload_n 36 0 dX0_doEnds_36 rfl rfl ?_
    refine x_bipush 37 (12 : Int32) dX0_doEnds_37 (by decide) ?_
    obtain ⟨h2, H⟩ := x_ckp H
    obtain ⟨M3, e5, H⟩ := x_bv_of H
    refine x_callV 39 42 0 [(.int (12 : Int32))] [] dX0_doEnds_39 (ct_X0_begin l e5) lk_981 lk_983 lk_32 (by decide) h2 lk_92 lk_984 ⟨cn_X0_begin, (by omega), by decide⟩ rfl (Nat.le_of_ble_eq_true rfl) (Nat.le_of_ble_eq_true rfl) (Nat.le_of_ble_eq_true rfl) (x_rv ?_)
    refine x_aload_n 42 0 dX0_doEnds_42 rfl rfl ?_
    refine x_iload_n 43 2 dX0_doEnds_43 rfl rfl ?_
    obtain ⟨h6, H⟩ := x_ckp H
    obtain ⟨r8, M7, e9, H⟩ := x_bd_of H
    refine x_callV 44 54 0 [(.int v2)] [] dX0_doEnds_44 (ct_X0_endCounter l e9) lk_997 lk_999 lk_35 (by decide) h6 lk_92 lk_1000 ⟨cn_X0_endCounter, (by omega), by decide⟩ rfl (Nat.le_of_ble_eq_true rfl) (Nat.le_of_ble_eq_true rfl) (Nat.le_of_ble_eq_true rfl) (x_ri ?_)
    cases H
    exact x_iret 47 dX0_doEnds_47 .int rfl rfl (Nat.le_of_ble_eq_true rfl) (Nat.le_of_ble_eq_true rfl) ⟨rfl, rfl⟩
  · replace H := x_ifn c1 H
    by_cases c10 : v1 = (4 : Int32)
    · replace H := x_ifp c10 H
      refine x_lookup (off := 47) 1 48 dX0_doEnds_1 (by decide) (by rw [c10]; rfl) (by decide) ?_
      refine x_aload_n 48 0 dX0_doEnds_48 rfl rfl ?_
      refine x_bipush 49 (50 : Int32) dX0_doEnds_49 (by decide) ?_
      obtain ⟨h11, H⟩ := x_ckp H
      obtain ⟨M12, e14, H⟩ := x_bv_of H
      refine x_callV 51 42 0 [(.int (50 : Int32))] [] dX0_doEnds_51 (ct_X0_begin l e14) lk_981 lk_983 lk_32 (by decide) h11 lk_92 lk_984 ⟨cn_X0_begin, (by omega), by decide⟩ rfl (Nat.le_of_ble_eq_true rfl) (Nat.le_of_ble_eq_true rfl) (Nat.le_of_ble_eq_true rfl) (x_rv ?_)
      refine x_aload_n 54 0 dX0_doEnds_54 rfl rfl ?_
      refine x_iload_n 55 1 dX0_doEnds_55 rfl rfl ?_
      obtain ⟨r16, M15, e17, H⟩ := x_bd_of H
      refine x_callSN 56 46 [(.int v1)] [(.ref v0)] dX0_doEnds_56 (ct_X8_above l e17) (List.mem_of_getElem? (i := 12) rfl) lk_986 lk_85 lk_987 ⟨cn_X8_above, (by omega), by decide⟩ rfl (Nat.le_of_ble_eq_true rfl) (Nat.le_of_ble_eq_true rfl) (Nat.le_of_ble_eq_true rfl) (x_ri ?_)
      refine x_iload_n 59 2 dX0_doEnds_59 rfl rfl ?_
      obtain ⟨h18, H⟩ := x_ckp H
      obtain ⟨r20, M19, e21, H⟩ := x_bd_of H
      refine x_callV 60 39 0 [(.int r16), (.int v2)] [] dX0_doEnds_60 (hκr e21) lk_993 lk_995 lk_34 (by decide) h18 lk_92 lk_996 ⟨cn_X0_doEnds, (by omega), by decide⟩ rfl (Nat.le_of_ble_eq_true rfl) (Nat.le_of_ble_eq_true rfl) (Nat.le_of_ble_eq_true rfl) (x_ri ?_)
      refine x_ineg 63 dX0_doEnds_63 ?_
      cases H
      exact x_iret 64 dX0_doEnds_64 .int rfl rfl (Nat.le_of_ble_eq_true rfl) (Nat.le_of_ble_eq_true rfl) ⟨rfl, rfl⟩
    · replace H := x_ifn c10 H
      by_cases c22 : v1 = (5 : Int32)
      · replace H := x_ifp c22 H
        refine x_lookup (off := 64) 1 65 dX0_doEnds_1 (by decide) (by rw [c22]; rfl) (by decide) ?_
        refine x_aload_n 65 0 dX0_doEnds_65 rfl rfl ?_
        refine x_bipush 66 (60 : Int32) dX0_doEnds_66 (by decide) ?_
        obtain ⟨h23, H⟩ := x_ckp H
        obtain ⟨M24, e26, H⟩ := x_bv_of H
        refine x_callV 68 42 0 [(.int (60 : Int32))] [] dX0_doEnds_68 (ct_X0_begin l e26) lk_981 lk_983 lk_32 (by decide) h23 lk_92 lk_984 ⟨cn_X0_begin, (by omega), by decide⟩ rfl (Nat.le_of_ble_eq_true rfl) (Nat.le_of_ble_eq_true rfl) (Nat.le_of_ble_eq_true rfl) (x_rv ?_)
        refine x_aload_n 71 0 dX0_doEnds_71 rfl rfl ?_
        refine x_iload_n 72 1 dX0_doEnds_72 rfl rfl ?_
        obtain ⟨r28, M27, e29, H⟩ := x_bd_of H
        refine x_callSN 73 46 [(.int v1)] [(.ref v0)] dX0_doEnds_73 (ct_X8_above l e29) (List.mem_of_getElem? (i := 12) rfl) lk_986 lk_85 lk_987 ⟨cn_X8_above, (by omega), by decide⟩ rfl (Nat.le_of_ble_eq_true rfl) (Nat.le_of_ble_eq_true rfl) (Nat.le_of_ble_eq_true rfl) (x_ri ?_)
        refine x_iload_n 76 2 dX0_doEnds_76 rfl rfl ?_
        obtain ⟨h30, H⟩ := x_ckp H
        obtain ⟨r32, M31, e33, H⟩ := x_bd_of H
        refine x_callV 77 39 0 [(.int r28), (.int v2)] [] dX0_doEnds_77 (hκr e33) lk_993 lk_995 lk_34 (by decide) h30 lk_92 lk_996 ⟨cn_X0_doEnds, (by omega), by decide⟩ rfl (Nat.le_of_ble_eq_true rfl) (Nat.le_of_ble_eq_true rfl) (Nat.le_of_ble_eq_true rfl) (x_ri ?_)
        refine x_iconst 80 (5 : Int32) dX0_doEnds_80 (by decide) ?_
        refine x_ixor 81 dX0_doEnds_81 ?_
        cases H
        exact x_iret 82 dX0_doEnds_82 .int rfl rfl (Nat.le_of_ble_eq_true rfl) (Nat.le_of_ble_eq_true rfl) ⟨rfl, rfl⟩
      · replace H := x_ifn c22 H
        refine x_lookup (off := 82) 1 83 dX0_doEnds_1 (by decide) (by show Op.lookupswitch.offset [(0, 35), (4, 47), (5, 64)] 82 _ = _; rw [lv_osw c1 (by decide), lv_osw c10 (by decide), lv_osw c22 (by decide)]; rfl) (by decide) ?_
        refine x_iload_n 83 1 dX0_doEnds_83 rfl rfl ?_
        obtain ⟨r35, M34, e36, H⟩ := x_bd_of H
        refine x_callSN 84 50 [(.int v1)] [] dX0_doEnds_84 (ct_X8_isKind l e36) (List.mem_of_getElem? (i := 13) rfl) lk_500 lk_85 lk_501 ⟨cn_X8_isKind, (by omega), by decide⟩ rfl (Nat.le_of_ble_eq_true rfl) (Nat.le_of_ble_eq_true rfl) (Nat.le_of_ble_eq_true rfl) (x_ri ?_)
        refine x_if_eq 87 102 dX0_doEnds_87 (by decide) (fun c37 => ?_) (fun c37 => ?_)
        · replace H := x_ifp c37 H
          refine x_iconst 102 (0 : Int32) dX0_doEnds_102 (by decide) ?_
          cases H
          exact x_iret 103 dX0_doEnds_103 .int rfl rfl (Nat.le_of_ble_eq_true rfl) (Nat.le_of_ble_eq_true rfl) ⟨rfl, rfl⟩
        · replace H := x_ifn c37 H
          refine x_aload_n 90 0 dX0_doEnds_90 rfl rfl ?_
          refine x_iload_n 91 1 dX0_doEnds_91 rfl rfl ?_
          obtain ⟨r39, M38, e40, H⟩ := x_bd_of H
          refine x_callSN 92 46 [(.int v1)] [(.ref v0)] dX0_doEnds_92 (ct_X8_above l e40) (List.mem_of_getElem? (i := 12) rfl) lk_986 lk_85 lk_987 ⟨cn_X8_above, (by omega), by decide⟩ rfl (Nat.le_of_ble_eq_true rfl) (Nat.le_of_ble_eq_true rfl) (Nat.le_of_ble_eq_true rfl) (x_ri ?_)
          refine x_iload_n 95 2 dX0_doEnds_95 rfl rfl ?_
          obtain ⟨h41, H⟩ := x_ckp H
          obtain ⟨r43, M42, e44, H⟩ := x_bd_of H
          refine x_callV 96 39 0 [(.int r39), (.int v2)] [] dX0_doEnds_96 (hκr e44) lk_993 lk_995 lk_34 (by decide) h41 lk_92 lk_996 ⟨cn_X0_doEnds, (by omega), by decide⟩ rfl (Nat.le_of_ble_eq_true rfl) (Nat.le_of_ble_eq_true rfl) (Nat.le_of_ble_eq_true rfl) (x_ri ?_)
          refine x_goto 99 103 dX0_doEnds_99 (by decide) ?_
          cases H
          exact x_iret 103 dX0_doEnds_103 .int rfl rfl (Nat.le_of_ble_eq_true rfl) (Nat.le_of_ble_eq_true rfl) ⟨rfl, rfl⟩

def f_X0_doEnds (r : Nat) : Nat → Int32 → Int32 → XM → Option (Int32 × XM) := x_rec (fun _ _ _ _ => none) bd_X0_doEnds r
theorem ct_X0_doEnds (l : Launch) : ∀ (r : Nat) {v0 : Nat} {v1 : Int32} {v2 : Int32} {M : XM} {q : Int32 × XM}, f_X0_doEnds r v0 v1 v2 M = some q → Ct l m_X0_doEnds (22 + r) 0 0 [(.ref v0), (.int v1), (.int v2)] M (x_Ri q) := by
  intro r
  induction r with
  | zero => intro v0 v1 v2 M q H; cases H
  | succ r ih => intro v0 v1 v2 M q H; exact x_met l m_X0_doEnds (22 + (r + 1)) 0 0 [(.ref v0), (.int v1), (.int v2)] M (x_Ri q) _ rfl rfl (Nat.le_of_ble_eq_true rfl) (t0_X0_doEnds l ih H)
abbrev m_X0_perform : XU := (yX0_perform, cX0_perform, 5, (some .int))
theorem cn_X0_perform : m_X0_perform.1.cls ≠ "java/lang/invoke/MethodHandle" ∧ m_X0_perform.1.cls ≠ "java/lang/invoke/VarHandle" ∧ (parseMethodDescriptor m_X0_perform.1.desc).map (fun q => q.parameters.length) = some 4 := by decide +kernel
def f_X0_perform (v0 : Nat) (v1 : Nat) (v2 : Int32) (v3 : Int32) (v4 : Int32) (M : XM) : Option (Int32 × XM) :=
  if x_tag M v1 = 2 + 10 then (if x_tag M v0 = 0 + 10 then (x_lt (x_wi M v0 2 (x_i M v1 0)) (fun M3 => x_lt (x_wi M3 v0 3 v2) (fun M7 => x_lt (x_wi M7 v0 4 (x_i M7 v1 1)) (fun M11 => if v3 = 0 then (x_bd (f_X0_doCounts 8 v0 (x_i M11 v0 2) v4 M11) (fun r17 M16 => some (r17, M16))) else (if v3 = (1 : Int32) then (x_bd (f_X0_doAsks 8 v0 (x_i M11 v0 2) v4 M11) (fun r21 M20 => some (r21, M20))) else (x_bd (f_X0_doEnds 8 v0 (x_i M11 v0 2) v4 M11) (fun r24 M23 => some (r24, M23)))))))) else none) else none
set_option maxRecDepth 20000 in
set_option maxHeartbeats 4000000 in
theorem t_X0_perform (l : Launch) {v0 : Nat} {v1 : Nat} {v2 : Int32} {v3 : Int32} {v4 : Int32} {M : XM} {q : Int32 × XM} (H : f_X0_perform v0 v1 v2 v3 v4 M = some q) : AW l m_X0_perform 31 0 0 (x_Ri q) 0 0 0 [some (.ref v0), some (.ref v1), some (.int v2), some (.int v3), some (.int v4)] [] M := by
  unfold f_X0_perform at H
  refine x_aload_n 0 0 dX0_perform_0 rfl rfl ?_
  refine x_aload_n 1 1 dX0_perform_1 rfl rfl ?_
  obtain ⟨h1, H⟩ := x_ckp H
  refine x_getf 2 19 2 0 (.int (x_i M v1 0)) dX0_perform_2 lk_124 (by decide) (by decide) rfl (fun _ => rfl) h1 ?_
  obtain ⟨h2, H⟩ := x_ckp H
  obtain ⟨M3, w4, H⟩ := x_lt_of H
  have h5 : x_tag M3 v1 = 2 + 10 := by rw [w4]; exact h1
  have h6 : x_tag M3 v0 = 0 + 10 := by rw [w4]; exact h2
  refine x_putI' 5 24 0 2 dX0_perform_5 lk_320 (by decide) (by decide) rfl (Or.inl rfl) (Or.inl rfl) h2 w4 ?_
  refine x_aload_n 8 0 dX0_perform_8 rfl rfl ?_
  refine x_iload_n 9 2 dX0_perform_9 rfl rfl ?_
  obtain ⟨M7, w8, H⟩ := x_lt_of H
  have h9 : x_tag M7 v1 = 2 + 10 := by rw [w8]; exact h5
  have h10 : x_tag M7 v0 = 0 + 10 := by rw [w8]; exact h6
  refine x_putI' 10 25 0 3 dX0_perform_10 lk_321 (by decide) (by decide) rfl (Or.inl rfl) (Or.inl rfl) h6 w8 ?_
  refine x_aload_n 13 0 dX0_perform_13 rfl rfl ?_
  refine x_aload_n 14 1 dX0_perform_14 rfl rfl ?_
  refine x_getf 15 28 2 1 (.int (x_i M7 v1 1)) dX0_perform_15 lk_127 (by decide) (by decide) rfl (fun _ => rfl) h9 ?_
  obtain ⟨M11, w12, H⟩ := x_lt_of H
  have h13 : x_tag M11 v1 = 2 + 10 := by rw [w12]; exact h9
  have h14 : x_tag M11 v0 = 0 + 10 := by rw [w12]; exact h10
  refine x_putI' 18 31 0 4 dX0_perform_18 lk_322 (by decide) (by decide) rfl (Or.inl rfl) (Or.inl rfl) h10 w12 ?_
  refine x_iload_n 21 3 dX0_perform_21 rfl rfl ?_
  refine x_if_ne 22 36 dX0_perform_22 (by decide) (fun c15 => ?_) (fun c15 => ?_)
  · replace H := x_ifn c15 H
    refine x_iload_n 36 3 dX0_perform_36 rfl rfl ?_
    refine x_iconst 37 (1 : Int32) dX0_perform_37 (by decide) ?_
    refine x_icmp_ne 38 54 dX0_perform_38 (by decide) (fun c19 => ?_) (fun c19 => ?_)
    · replace H := x_ifn c19 H
      refine x_aload_n 54 0 dX0_perform_54 rfl rfl ?_
      refine x_aload_n 55 0 dX0_perform_55 rfl rfl ?_
      refine x_getf 56 24 0 2 (.int (x_i M11 v0 2)) dX0_perform_56 lk_320 (by decide) (by decide) rfl (fun _ => rfl) h14 ?_
      refine x_iload 59 4 dX0_perform_59 rfl ?_
      obtain ⟨r24, M23, e25, H⟩ := x_bd_of H
      refine x_callV 61 39 0 [(.int (x_i M11 v0 2)), (.int v4)] [] dX0_perform_61 (ct_X0_doEnds l 8 e25) lk_993 lk_995 lk_34 (by decide) h14 lk_92 lk_996 ⟨cn_X0_doEnds, (by decide), by decide⟩ rfl (Nat.le_of_ble_eq_true rfl) (Nat.le_of_ble_eq_true rfl) (Nat.le_of_ble_eq_true rfl) (x_ri ?_)
      cases H
      exact x_iret 64 dX0_perform_64 .int rfl rfl (Nat.le_of_ble_eq_true rfl) (Nat.le_of_ble_eq_true rfl) ⟨rfl, rfl⟩
    · replace H := x_ifp c19 H
      refine x_aload_n 41 0 dX0_perform_41 rfl rfl ?_
      refine x_aload_n 42 0 dX0_perform_42 rfl rfl ?_
      refine x_getf 43 24 0 2 (.int (x_i M11 v0 2)) dX0_perform_43 lk_320 (by decide) (by decide) rfl (fun _ => rfl) h14 ?_
      refine x_iload 46 4 dX0_perform_46 rfl ?_
      obtain ⟨r21, M20, e22, H⟩ := x_bd_of H
      refine x_callV 48 36 0 [(.int (x_i M11 v0 2)), (.int v4)] [] dX0_perform_48 (ct_X0_doAsks l 8 e22) lk_989 lk_991 lk_33 (by decide) h14 lk_92 lk_992 ⟨cn_X0_doAsks, (by decide), by decide⟩ rfl (Nat.le_of_ble_eq_true rfl) (Nat.le_of_ble_eq_true rfl) (Nat.le_of_ble_eq_true rfl) (x_ri ?_)
      refine x_goto 51 64 dX0_perform_51 (by decide) ?_
      cases H
      exact x_iret 64 dX0_perform_64 .int rfl rfl (Nat.le_of_ble_eq_true rfl) (Nat.le_of_ble_eq_true rfl) ⟨rfl, rfl⟩
  · replace H := x_ifp c15 H
    refine x_aload_n 25 0 dX0_perform_25 rfl rfl ?_
    refine x_aload_n 26 0 dX0_perform_26 rfl rfl ?_
    refine x_getf 27 24 0 2 (.int (x_i M11 v0 2)) dX0_perform_27 lk_320 (by decide) (by decide) rfl (fun _ => rfl) h14 ?_
    refine x_iload 30 4 dX0_perform_30 rfl ?_
    obtain ⟨r17, M16, e18, H⟩ := x_bd_of H
    refine x_callV 32 32 0 [(.int (x_i M11 v0 2)), (.int v4)] [] dX0_perform_32 (ct_X0_doCounts l 8 e18) lk_977 lk_979 lk_31 (by decide) h14 lk_92 lk_980 ⟨cn_X0_doCounts, (by decide), by decide⟩ rfl (Nat.le_of_ble_eq_true rfl) (Nat.le_of_ble_eq_true rfl) (Nat.le_of_ble_eq_true rfl) (x_ri ?_)
    cases H
    exact x_iret 35 dX0_perform_35 .int rfl rfl (Nat.le_of_ble_eq_true rfl) (Nat.le_of_ble_eq_true rfl) ⟨rfl, rfl⟩

theorem ct_X0_perform (l : Launch) {v0 : Nat} {v1 : Nat} {v2 : Int32} {v3 : Int32} {v4 : Int32} {M : XM} {q : Int32 × XM} (H : f_X0_perform v0 v1 v2 v3 v4 M = some q) : Ct l m_X0_perform 31 0 0 [(.ref v0), (.ref v1), (.int v2), (.int v3), (.int v4)] M (x_Ri q) := x_met l m_X0_perform 31 0 0 [(.ref v0), (.ref v1), (.int v2), (.int v3), (.int v4)] M (x_Ri q) _ rfl rfl (Nat.le_of_ble_eq_true rfl) (t_X0_perform l H)
theorem lk_267 : Cond.methodLink RX1 3 Lib.objectInit ∈ x_TB := x_tb (k := 267) (by decide +kernel) rfl
theorem lk_268 : Cond.fieldLink RX1 9 RX1 "parts" "[I" ∈ x_TB := x_tb (k := 268) (by decide +kernel) rfl
theorem lk_269 : Cond.fieldLink RX1 15 RX1 "next" "[I" ∈ x_TB := x_tb (k := 269) (by decide +kernel) rfl
theorem lk_270 : Cond.fieldLink RX1 18 RX1 "lefts" "[I" ∈ x_TB := x_tb (k := 270) (by decide +kernel) rfl
abbrev m_X1_init : XU := (yX1_init, cX1_init, 1, none)
theorem cn_X1_init : m_X1_init.1.cls ≠ "java/lang/invoke/MethodHandle" ∧ m_X1_init.1.cls ≠ "java/lang/invoke/VarHandle" ∧ (parseMethodDescriptor m_X1_init.1.desc).map (fun q => q.parameters.length) = some 0 := by decide +kernel
def f_X1_init (v0 : Nat) (M : XM) : Option XM :=
  if x_tag M v0 = 1 + 10 then (x_al M 1 2000 (fun a3 M2 => if x_tag M2 v0 = 1 + 10 then (x_lt (x_wr M2 v0 0 a3) (fun M8 => x_al M8 1 2000 (fun a13 M12 => if x_tag M12 v0 = 1 + 10 then (x_lt (x_wr M12 v0 1 a13) (fun M18 => x_al M18 1 2000 (fun a23 M22 => if x_tag M22 v0 = 1 + 10 then (x_lt (x_wr M22 v0 2 a23) (fun M28 => some M28)) else none))) else none))) else none)) else none
set_option maxRecDepth 20000 in
set_option maxHeartbeats 4000000 in
theorem t_X1_init (l : Launch) {v0 : Nat} {M : XM} {q : XM} (H : f_X1_init v0 M = some q) : AW l m_X1_init 1 3 6000 (x_Rv q) 0 0 0 [some (.ref v0)] [] M := by
  unfold f_X1_init at H
  refine x_aload_n 0 0 dX1_init_0 rfl rfl ?_
  obtain ⟨h1, H⟩ := x_ckp H
  refine x_objInit 1 3 dX1_init_1 lk_267 lk_108 lk_109 h1 rfl (Nat.le_of_ble_eq_true rfl) (by decide) ?_
  refine x_aload_n 4 0 dX1_init_4 rfl rfl ?_
  refine x_sipush 5 (2000 : Int32) dX1_init_5 (by decide) ?_
  obtain ⟨a3, M2, w4, w5, H⟩ := x_al_of H
  refine x_newI' 8 2000 dX1_init_8 lk_153 (by decide) (by decide) (by decide) (Nat.le_of_ble_eq_true rfl) (Nat.le_of_ble_eq_true rfl) w4 w5 ?_
  have h6 : x_tag M2 a3 = 1 := x_al_tag w4 w5
  change AW _ _ _ _ _ _ 1 2000 _ _ _ _
  obtain ⟨h7, H⟩ := x_ckp H
  obtain ⟨M8, w9, H⟩ := x_lt_of H
  have h10 : x_tag M8 a3 = 1 := by rw [w9]; exact h6
  have h11 : x_tag M8 v0 = 1 + 10 := by rw [w9]; exact h7
  refine x_putR' 10 9 1 0 dX1_init_10 lk_268 (by decide) (by decide) rfl (Or.inr ⟨_, rfl⟩) (Or.inl rfl) h7 w9 ?_
  refine x_aload_n 13 0 dX1_init_13 rfl rfl ?_
  refine x_sipush 14 (2000 : Int32) dX1_init_14 (by decide) ?_
  obtain ⟨a13, M12, w14, w15, H⟩ := x_al_of H
  refine x_newI' 17 2000 dX1_init_17 lk_153 (by decide) (by decide) (by decide) (Nat.le_of_ble_eq_true rfl) (Nat.le_of_ble_eq_true rfl) w14 w15 ?_
  have h16 : x_tag M12 a13 = 1 := x_al_tag w14 w15
  change AW _ _ _ _ _ _ 2 4000 _ _ _ _
  obtain ⟨h17, H⟩ := x_ckp H
  obtain ⟨M18, w19, H⟩ := x_lt_of H
  have h20 : x_tag M18 a13 = 1 := by rw [w19]; exact h16
  have h21 : x_tag M18 v0 = 1 + 10 := by rw [w19]; exact h17
  refine x_putR' 19 15 1 1 dX1_init_19 lk_269 (by decide) (by decide) rfl (Or.inr ⟨_, rfl⟩) (Or.inl rfl) h17 w19 ?_
  refine x_aload_n 22 0 dX1_init_22 rfl rfl ?_
  refine x_sipush 23 (2000 : Int32) dX1_init_23 (by decide) ?_
  obtain ⟨a23, M22, w24, w25, H⟩ := x_al_of H
  refine x_newI' 26 2000 dX1_init_26 lk_153 (by decide) (by decide) (by decide) (Nat.le_of_ble_eq_true rfl) (Nat.le_of_ble_eq_true rfl) w24 w25 ?_
  have h26 : x_tag M22 a23 = 1 := x_al_tag w24 w25
  change AW _ _ _ _ _ _ 3 6000 _ _ _ _
  obtain ⟨h27, H⟩ := x_ckp H
  obtain ⟨M28, w29, H⟩ := x_lt_of H
  have h30 : x_tag M28 a23 = 1 := by rw [w29]; exact h26
  have h31 : x_tag M28 v0 = 1 + 10 := by rw [w29]; exact h27
  refine x_putR' 28 18 1 2 dX1_init_28 lk_270 (by decide) (by decide) rfl (Or.inr ⟨_, rfl⟩) (Or.inr ⟨rfl, rfl⟩) h27 w29 ?_
  cases H
  exact x_vret 31 dX1_init_31 rfl (Nat.le_of_ble_eq_true rfl) (Nat.le_of_ble_eq_true rfl) ⟨rfl, rfl⟩

theorem ct_X1_init (l : Launch) {v0 : Nat} {M : XM} {q : XM} (H : f_X1_init v0 M = some q) : Ct l m_X1_init 1 3 6000 [(.ref v0)] M (x_Rv q) := x_met l m_X1_init 1 3 6000 [(.ref v0)] M (x_Rv q) _ rfl rfl (Nat.le_of_ble_eq_true rfl) (t_X1_init l H)
theorem lk_168 : Cond.fieldLink RX1 21 RX4 "apart" "I" ∈ x_TB := x_tb (k := 168) (by decide +kernel) rfl
theorem lk_157 : Cond.fieldLink RX1 37 RX4 "counters" "[LWhatDidYouSay$Counter;" ∈ x_TB := x_tb (k := 157) (by decide +kernel) rfl
theorem lk_165 : Cond.fieldLink RX1 41 RX4 "n" "I" ∈ x_TB := x_tb (k := 165) (by decide +kernel) rfl
theorem lk_780 : Cond.methodLink RX1 44 Lib.Math.min.name ∈ x_TB := x_tb (k := 780) (by decide +kernel) rfl
theorem lk_558 : Cond.static Lib.Math.min.name ∈ x_TB := x_tb (k := 558) (by decide +kernel) rfl
theorem lk_97 : Cond.initialized "java/lang/Math" ∈ x_TB := x_tb (k := 97) (by decide +kernel) rfl
theorem lk_559 : Cond.code Lib.Math.min.name Lib.Math.min.code 2 (some .int) ∈ x_TB := x_tb (k := 559) (by decide +kernel) rfl
theorem lk_271 : Cond.fieldLink RX1 50 RX1 "n" "I" ∈ x_TB := x_tb (k := 271) (by decide +kernel) rfl
theorem lk_173 : Cond.fieldLink RX1 51 RX4 "odds" "I" ∈ x_TB := x_tb (k := 173) (by decide +kernel) rfl
theorem lk_272 : Cond.fieldLink RX1 54 RX1 "odds" "I" ∈ x_TB := x_tb (k := 272) (by decide +kernel) rfl
theorem lk_123 : Cond.fieldLink RX2 9 RX2 "kind" "I" ∈ x_TB := x_tb (k := 123) (by decide +kernel) rfl
abbrev m_X8_isUnder : XU := (yX8_isUnder, cX8_isUnder, 3, (some .boolean))
theorem cn_X8_isUnder : m_X8_isUnder.1.cls ≠ "java/lang/invoke/MethodHandle" ∧ m_X8_isUnder.1.cls ≠ "java/lang/invoke/VarHandle" ∧ (parseMethodDescriptor m_X8_isUnder.1.desc).map (fun q => q.parameters.length) = some 2 := by decide +kernel
def bd_X8_isUnder_2 (κ2 : Int32 → Int32 → XM → Option (Int32 × XM)) (v1 : Int32) (v2 : Int32) (M : XM) : Option (Int32 × XM) :=
  x_bd (f_X8_isKind v2 M) (fun r2 M1 => if r2 = 0 then (some ((0 : Int32), M1)) else (if v2 = v1 then (some ((1 : Int32), M1)) else (if x_at M1 2 5 v2 = true then (κ2 v1 (x_i M1 2 v2.toNatClampNeg) M1) else none)))
set_option maxRecDepth 20000 in
set_option maxHeartbeats 4000000 in
theorem tb_X8_isUnder_2 (l : Launch) {κ2 : Int32 → Int32 → XM → Option (Int32 × XM)} {v1 : Int32} {v2 : Int32} {M : XM} {q : Int32 × XM} (hκ2 : ∀ (v1 : Int32) (v2 : Int32) (M : XM), κ2 v1 v2 M = some q → AW l m_X8_isUnder 2 0 0 (x_Ri q) 0 0 2 [none, some (.int v1), some (.int v2)] [] M) (H : bd_X8_isUnder_2 κ2 v1 v2 M = some q) : AW l m_X8_isUnder 2 0 0 (x_Ri q) 0 0 2 [none, some (.int v1), some (.int v2)] [] M := by
  unfold bd_X8_isUnder_2 at H
  refine x_iload_n 2 2 dX8_isUnder_2 rfl rfl ?_
  obtain ⟨r2, M1, e3, H⟩ := x_bd_of H
  refine x_callS 3 139 [(.int v2)] [] dX8_isUnder_3 (ct_X8_isKind l e3) lk_499 lk_500 lk_85 lk_501 ⟨cn_X8_isKind, (by decide), by decide⟩ rfl (Nat.le_of_ble_eq_true rfl) (Nat.le_of_ble_eq_true rfl) (Nat.le_of_ble_eq_true rfl) (x_ri ?_)
  refine x_if_eq 6 25 dX8_isUnder_6 (by decide) (fun c4 => ?_) (fun c4 => ?_)
  · replace H := x_ifp c4 H
    refine x_iconst 25 (0 : Int32) dX8_isUnder_25 (by decide) ?_
    cases H
    exact x_iret 26 dX8_isUnder_26 .boolean rfl rfl (Nat.le_of_ble_eq_true rfl) (Nat.le_of_ble_eq_true rfl) ⟨rfl, rfl⟩
  · replace H := x_ifn c4 H
    refine x_iload_n 9 2 dX8_isUnder_9 rfl rfl ?_
    refine x_iload_n 10 1 dX8_isUnder_10 rfl rfl ?_
    refine x_icmp_ne 11 16 dX8_isUnder_11 (by decide) (fun c5 => ?_) (fun c5 => ?_)
    · replace H := x_ifn c5 H
      refine x_gets 16 351 2 "ABOVE" "[I" dX8_isUnder_16 "WhatDidYouSay" x_ZA lk_502 ?_
      refine x_iload_n 19 2 dX8_isUnder_19 rfl rfl ?_
      obtain ⟨h6, H⟩ := x_ckp H
      refine x_siald 20 dX8_isUnder_20 h6 (by decide) ?_
      refine x_istore_n 21 2 [none, some (.int v1), some (.int (x_i M1 2 v2.toNatClampNeg))] dX8_isUnder_21 rfl rfl (Nat.le_of_ble_eq_true rfl) rfl ?_
      refine x_goto 22 2 dX8_isUnder_22 (by decide) ?_
      exact hκ2 _ _ _ H
    · replace H := x_ifp c5 H
      refine x_iconst 14 (1 : Int32) dX8_isUnder_14 (by decide) ?_
      cases H
      exact x_iret 15 dX8_isUnder_15 .boolean rfl rfl (Nat.le_of_ble_eq_true rfl) (Nat.le_of_ble_eq_true rfl) ⟨rfl, rfl⟩

def lp_X8_isUnder_2 (n : Nat) : Int32 → Int32 → XM → Option (Int32 × XM) := x_rec (fun _ _ _ => none) (bd_X8_isUnder_2) n
theorem t_X8_isUnder_2 (l : Launch) {q : Int32 × XM} : ∀ (n : Nat) (v1 : Int32) (v2 : Int32) (M : XM), lp_X8_isUnder_2 n v1 v2 M = some q → AW l m_X8_isUnder 2 0 0 (x_Ri q) 0 0 2 [none, some (.int v1), some (.int v2)] [] M := by
  intro n
  induction n with
  | zero => intro v1 v2 M H; cases H
  | succ n ih => intro v1 v2 M H; exact tb_X8_isUnder_2 l ih H
def f_X8_isUnder (v0 : Int32) (v1 : Int32) (M : XM) : Option (Int32 × XM) :=
  lp_X8_isUnder_2 x_fuel v1 v0 M
set_option maxRecDepth 20000 in
set_option maxHeartbeats 4000000 in
theorem t_X8_isUnder (l : Launch) {v0 : Int32} {v1 : Int32} {M : XM} {q : Int32 × XM} (H : f_X8_isUnder v0 v1 M = some q) : AW l m_X8_isUnder 2 0 0 (x_Ri q) 0 0 0 [some (.int v0), some (.int v1), none] [] M := by
  unfold f_X8_isUnder at H
  refine x_iload_n 0 0 dX8_isUnder_0 rfl rfl ?_
  refine x_istore_n 1 2 [some (.int v0), some (.int v1), some (.int v0)] dX8_isUnder_1 rfl rfl (Nat.le_of_ble_eq_true rfl) rfl ?_
  exact x_wk (le_n (le_s (le_s le_0))) (t_X8_isUnder_2 l _ _ _ _ H)

theorem ct_X8_isUnder (l : Launch) {v0 : Int32} {v1 : Int32} {M : XM} {q : Int32 × XM} (H : f_X8_isUnder v0 v1 M = some q) : Ct l m_X8_isUnder 2 0 0 [(.int v0), (.int v1)] M (x_Ri q) := x_met l m_X8_isUnder 2 0 0 [(.int v0), (.int v1)] M (x_Ri q) _ rfl rfl (Nat.le_of_ble_eq_true rfl) (t_X8_isUnder l H)
theorem lk_506 : Cond.code yX8_isUnder cX8_isUnder 3 (some .boolean) ∈ x_TB := x_tb (k := 506) (by decide +kernel) rfl
theorem lk_505 : Cond.static yX8_isUnder ∈ x_TB := x_tb (k := 505) (by decide +kernel) rfl
abbrev m_X2_hearsBySoMany : XU := (yX2_hearsBySoMany, cX2_hearsBySoMany, 1, (some .boolean))
theorem cn_X2_hearsBySoMany : m_X2_hearsBySoMany.1.cls ≠ "java/lang/invoke/MethodHandle" ∧ m_X2_hearsBySoMany.1.cls ≠ "java/lang/invoke/VarHandle" ∧ (parseMethodDescriptor m_X2_hearsBySoMany.1.desc).map (fun q => q.parameters.length) = some 0 := by decide +kernel
def f_X2_hearsBySoMany (v0 : Nat) (M : XM) : Option (Int32 × XM) :=
  if x_tag M v0 = 2 + 10 then (x_bd (f_X8_isUnder (x_i M v0 0) (4 : Int32) M) (fun r3 M2 => if r3 = 0 ∨ r3 = 1 then (some (r3, M2)) else none)) else none
set_option maxRecDepth 20000 in
set_option maxHeartbeats 4000000 in
theorem t_X2_hearsBySoMany (l : Launch) {v0 : Nat} {M : XM} {q : Int32 × XM} (H : f_X2_hearsBySoMany v0 M = some q) : AW l m_X2_hearsBySoMany 3 0 0 (x_Ri q) 0 0 0 [some (.ref v0)] [] M := by
  unfold f_X2_hearsBySoMany at H
  refine x_aload_n 0 0 dX2_hearsBySoMany_0 rfl rfl ?_
  obtain ⟨h1, H⟩ := x_ckp H
  refine x_getf 1 9 2 0 (.int (x_i M v0 0)) dX2_hearsBySoMany_1 lk_123 (by decide) (by decide) rfl (fun _ => rfl) h1 ?_
  refine x_iconst 4 (4 : Int32) dX2_hearsBySoMany_4 (by decide) ?_
  obtain ⟨r3, M2, e4, H⟩ := x_bd_of H
  refine x_callSN 5 30 [(.int (x_i M v0 0)), (.int (4 : Int32))] [] dX2_hearsBySoMany_5 (ct_X8_isUnder l e4) (List.mem_of_getElem? (i := 10) rfl) lk_505 lk_85 lk_506 ⟨cn_X8_isUnder, (by decide), by decide⟩ rfl (Nat.le_of_ble_eq_true rfl) (Nat.le_of_ble_eq_true rfl) (Nat.le_of_ble_eq_true rfl) (x_ri ?_)
  obtain ⟨h5, H⟩ := x_ckp H
  cases H
  exact x_iret 8 dX2_hearsBySoMany_8 .boolean rfl (x_narZ h5) (Nat.le_of_ble_eq_true rfl) (Nat.le_of_ble_eq_true rfl) ⟨rfl, rfl⟩

theorem ct_X2_hearsBySoMany (l : Launch) {v0 : Nat} {M : XM} {q : Int32 × XM} (H : f_X2_hearsBySoMany v0 M = some q) : Ct l m_X2_hearsBySoMany 3 0 0 [(.ref v0)] M (x_Ri q) := x_met l m_X2_hearsBySoMany 3 0 0 [(.ref v0)] M (x_Ri q) _ rfl rfl (Nat.le_of_ble_eq_true rfl) (t_X2_hearsBySoMany l H)
theorem lk_87 : Cond.initialized RX2 ∈ x_TB := x_tb (k := 87) (by decide +kernel) rfl
theorem lk_784 : Cond.code yX2_hearsBySoMany cX2_hearsBySoMany 1 (some .boolean) ∈ x_TB := x_tb (k := 784) (by decide +kernel) rfl
theorem lk_781 : Cond.methodLink RX1 55 yX2_hearsBySoMany ∈ x_TB := x_tb (k := 781) (by decide +kernel) rfl
theorem lk_783 : Cond.selects RX2 yX2_hearsBySoMany yX2_hearsBySoMany ∈ x_TB := x_tb (k := 783) (by decide +kernel) rfl
theorem lk_782 : Cond.instanceMethod yX2_hearsBySoMany ∈ x_TB := x_tb (k := 782) (by decide +kernel) rfl
theorem lk_273 : Cond.fieldLink RX1 64 RX1 "rests" "I" ∈ x_TB := x_tb (k := 273) (by decide +kernel) rfl
abbrev m_J7_fill_53178 : XU := (yJ7_fill_53178, cJ7_fill_53178, 4, none)
theorem cn_J7_fill_53178 : m_J7_fill_53178.1.cls ≠ "java/lang/invoke/MethodHandle" ∧ m_J7_fill_53178.1.cls ≠ "java/lang/invoke/VarHandle" ∧ (parseMethodDescriptor m_J7_fill_53178.1.desc).map (fun q => q.parameters.length) = some 2 := by decide +kernel
def bd_J7_fill_53178_5 (κ5 : Nat → Int32 → Int32 → Int32 → XM → Option XM) (v0 : Nat) (v1 : Int32) (v2 : Int32) (v3 : Int32) (M : XM) : Option XM :=
  if v3 ≤ v2 then (some M) else (if x_at M v0 1 v2 = true then (x_lt (x_wi M v0 v2.toNatClampNeg v1) (fun M4 => κ5 v0 v1 (v2 + (1 : Int32)) v3 M4)) else none)
set_option maxRecDepth 20000 in
set_option maxHeartbeats 4000000 in
theorem tb_J7_fill_53178_5 (l : Launch) {κ5 : Nat → Int32 → Int32 → Int32 → XM → Option XM} {v0 : Nat} {v1 : Int32} {v2 : Int32} {v3 : Int32} {M : XM} {q : XM} (hκ5 : ∀ (v0 : Nat) (v1 : Int32) (v2 : Int32) (v3 : Int32) (M : XM), κ5 v0 v1 v2 v3 M = some q → AW l m_J7_fill_53178 1 0 0 (x_Rv q) 0 0 5 [some (.ref v0), some (.int v1), some (.int v2), some (.int v3)] [] M) (H : bd_J7_fill_53178_5 κ5 v0 v1 v2 v3 M = some q) : AW l m_J7_fill_53178 1 0 0 (x_Rv q) 0 0 5 [some (.ref v0), some (.int v1), some (.int v2), some (.int v3)] [] M := by
  unfold bd_J7_fill_53178_5 at H
  refine x_iload_n 5 2 dJ7_fill_53178_5 rfl rfl ?_
  refine x_iload_n 6 3 dJ7_fill_53178_6 rfl rfl ?_
  refine x_icmp_ge 7 20 dJ7_fill_53178_7 (by decide) (fun c2 => ?_) (fun c2 => ?_)
  · replace H := x_ifp c2 H
    cases H
    exact x_vret 20 dJ7_fill_53178_20 rfl (Nat.le_of_ble_eq_true rfl) (Nat.le_of_ble_eq_true rfl) ⟨rfl, rfl⟩
  · replace H := x_ifn c2 H
    refine x_aload_n 10 0 dJ7_fill_53178_10 rfl rfl ?_
    refine x_iload_n 11 2 dJ7_fill_53178_11 rfl rfl ?_
    refine x_iload_n 12 1 dJ7_fill_53178_12 rfl rfl ?_
    obtain ⟨h3, H⟩ := x_ckp H
    obtain ⟨M4, w5, H⟩ := x_lt_of H
    have h6 : x_at M4 v0 1 v2 = true := by rw [w5]; exact h3
    have h7 : x_tag M4 v0 = 1 := by rw [w5]; exact (x_at_1 h3)
    refine x_iast' 13 dJ7_fill_53178_13 h3 w5 ?_
    refine x_iinc 14 2 (v2 + (1 : Int32)) [some (.ref v0), some (.int v1), some (.int (v2 + (1 : Int32))), some (.int v3)] dJ7_fill_53178_14 rfl (congrArg (fun z : Int32 => v2 + z) (show Int32.ofInt (1) = (1 : Int32) by decide)) rfl (Nat.le_of_ble_eq_true rfl) rfl ?_
    refine x_goto 17 5 dJ7_fill_53178_17 (by decide) ?_
    exact hκ5 _ _ _ _ _ H

def lp_J7_fill_53178_5 (n : Nat) : Nat → Int32 → Int32 → Int32 → XM → Option XM := x_rec (fun _ _ _ _ _ => none) (bd_J7_fill_53178_5) n
theorem t_J7_fill_53178_5 (l : Launch) {q : XM} : ∀ (n : Nat) (v0 : Nat) (v1 : Int32) (v2 : Int32) (v3 : Int32) (M : XM), lp_J7_fill_53178_5 n v0 v1 v2 v3 M = some q → AW l m_J7_fill_53178 1 0 0 (x_Rv q) 0 0 5 [some (.ref v0), some (.int v1), some (.int v2), some (.int v3)] [] M := by
  intro n
  induction n with
  | zero => intro v0 v1 v2 v3 M H; cases H
  | succ n ih => intro v0 v1 v2 v3 M H; exact tb_J7_fill_53178_5 l ih H
def f_J7_fill_53178 (v0 : Nat) (v1 : Int32) (M : XM) : Option XM :=
  if x_tag M v0 = 1 then (lp_J7_fill_53178_5 x_fuel v0 v1 (0 : Int32) (Int32.ofNat (x_len M v0)) M) else none
set_option maxRecDepth 20000 in
set_option maxHeartbeats 4000000 in
theorem t_J7_fill_53178 (l : Launch) {v0 : Nat} {v1 : Int32} {M : XM} {q : XM} (H : f_J7_fill_53178 v0 v1 M = some q) : AW l m_J7_fill_53178 1 0 0 (x_Rv q) 0 0 0 [some (.ref v0), some (.int v1), none, none] [] M := by
  unfold f_J7_fill_53178 at H
  refine x_iconst 0 (0 : Int32) dJ7_fill_53178_0 (by decide) ?_
  refine x_istore_n 1 2 [some (.ref v0), some (.int v1), some (.int (0 : Int32)), none] dJ7_fill_53178_1 rfl rfl (Nat.le_of_ble_eq_true rfl) rfl ?_
  refine x_aload_n 2 0 dJ7_fill_53178_2 rfl rfl ?_
  obtain ⟨h1, H⟩ := x_ckp H
  refine x_alen 3 1 dJ7_fill_53178_3 h1 (by decide) ?_
  refine x_istore_n 4 3 [some (.ref v0), some (.int v1), some (.int (0 : Int32)), some (.int (Int32.ofNat (x_len M v0)))] dJ7_fill_53178_4 rfl rfl (Nat.le_of_ble_eq_true rfl) rfl ?_
  exact t_J7_fill_53178_5 l _ _ _ _ _ _ H

theorem ct_J7_fill_53178 (l : Launch) {v0 : Nat} {v1 : Int32} {M : XM} {q : XM} (H : f_J7_fill_53178 v0 v1 M = some q) : Ct l m_J7_fill_53178 1 0 0 [(.ref v0), (.int v1)] M (x_Rv q) := x_met l m_J7_fill_53178 1 0 0 [(.ref v0), (.int v1)] M (x_Rv q) _ rfl rfl (Nat.le_of_ble_eq_true rfl) (t_J7_fill_53178 l H)
theorem lk_95 : Cond.initialized RJ7 ∈ x_TB := x_tb (k := 95) (by decide +kernel) rfl
theorem lk_788 : Cond.code yJ7_fill_53178 cJ7_fill_53178 4 none ∈ x_TB := x_tb (k := 788) (by decide +kernel) rfl
theorem lk_786 : Cond.methodLink RX1 67 yJ7_fill_53178 ∈ x_TB := x_tb (k := 786) (by decide +kernel) rfl
theorem lk_787 : Cond.static yJ7_fill_53178 ∈ x_TB := x_tb (k := 787) (by decide +kernel) rfl
theorem lk_126 : Cond.fieldLink RX2 15 RX2 "a" "I" ∈ x_TB := x_tb (k := 126) (by decide +kernel) rfl
abbrev m_X2_leftAt : XU := (yX2_leftAt, cX2_leftAt, 6, (some .int))
theorem cn_X2_leftAt : m_X2_leftAt.1.cls ≠ "java/lang/invoke/MethodHandle" ∧ m_X2_leftAt.1.cls ≠ "java/lang/invoke/VarHandle" ∧ (parseMethodDescriptor m_X2_leftAt.1.desc).map (fun q => q.parameters.length) = some 3 := by decide +kernel
def f_X2_leftAt_37 (v0 : Nat) (v1 : Int32) (v4 : Int32) (s0 : Int32) (M : XM) : Option (Int32 × XM) :=
  if x_tag M v0 = 2 + 10 then (if (x_i M v0 0) = (1 : Int32) then (some (v4, M)) else if (x_i M v0 0) = (2 : Int32) then (some (v1, M)) else if (x_i M v0 0) = (3 : Int32) then (if ((x_i M v0 1) + (2 : Int32)) = 0 then none else some ((v1 - (v1 - v1 / ((x_i M v0 1) + (2 : Int32)) * ((x_i M v0 1) + (2 : Int32)))), M)) else if (x_i M v0 0) = (4 : Int32) then (if s0 = 0 then (some (v1, M)) else (some ((0 : Int32), M))) else if (x_i M v0 0) = (5 : Int32) then (if (x_i M v0 1) < (v1 - v4) then (some (v4, M)) else (some (v1, M))) else if (x_i M v0 0) = (6 : Int32) then (if s0 = 0 then (some (v1, M)) else (some ((v1 / (2 : Int32)), M))) else some ((0 : Int32), M)) else none
set_option maxRecDepth 20000 in
set_option maxHeartbeats 4000000 in
theorem t_X2_leftAt_37 (l : Launch) {v0 : Nat} {v1 : Int32} {v4 : Int32} {s0 : Int32} {M : XM} {q : Int32 × XM} (H : f_X2_leftAt_37 v0 v1 v4 s0 M = some q) : AW l m_X2_leftAt 1 0 0 (x_Ri q) 0 0 37 [some (.ref v0), some (.int v1), none, none, some (.int v4), none] [(.int s0)] M := by
  unfold f_X2_leftAt_37 at H
  refine x_istore 37 5 [some (.ref v0), some (.int v1), none, none, some (.int v4), some (.int s0)] dX2_leftAt_37 rfl (Nat.le_of_ble_eq_true rfl) rfl ?_
  refine x_aload_n 39 0 dX2_leftAt_39 rfl rfl ?_
  obtain ⟨h7, H⟩ := x_ckp H
  refine x_getf 40 9 2 0 (.int (x_i M v0 0)) dX2_leftAt_40 lk_123 (by decide) (by decide) rfl (fun _ => rfl) h7 ?_
  by_cases c8 : (x_i M v0 0) = (1 : Int32)
  · replace H := x_ifp c8 H
    refine x_tableIn (off := 37) 43 80 dX2_leftAt_43 (by rw [c8]; decide) (by rw [c8]; decide) (by rw [c8]; rfl) (by decide) ?_
    refine x_iload 80 4 dX2_leftAt_80 rfl ?_
    cases H
    exact x_iret 82 dX2_leftAt_82 .int rfl rfl (Nat.le_of_ble_eq_true rfl) (Nat.le_of_ble_eq_true rfl) ⟨rfl, rfl⟩
  · replace H := x_ifn c8 H
    by_cases c9 : (x_i M v0 0) = (2 : Int32)
    · replace H := x_ifp c9 H
      refine x_tableIn (off := 40) 43 83 dX2_leftAt_43 (by rw [c9]; decide) (by rw [c9]; decide) (by rw [c9]; rfl) (by decide) ?_
      refine x_iload_n 83 1 dX2_leftAt_83 rfl rfl ?_
      cases H
      exact x_iret 84 dX2_leftAt_84 .int rfl rfl (Nat.le_of_ble_eq_true rfl) (Nat.le_of_ble_eq_true rfl) ⟨rfl, rfl⟩
    · replace H := x_ifn c9 H
      by_cases c10 : (x_i M v0 0) = (3 : Int32)
      · replace H := x_ifp c10 H
        refine x_tableIn (off := 42) 43 85 dX2_leftAt_43 (by rw [c10]; decide) (by rw [c10]; decide) (by rw [c10]; rfl) (by decide) ?_
        refine x_iload_n 85 1 dX2_leftAt_85 rfl rfl ?_
        refine x_iload_n 86 1 dX2_leftAt_86 rfl rfl ?_
        refine x_aload_n 87 0 dX2_leftAt_87 rfl rfl ?_
        refine x_getf 88 15 2 1 (.int (x_i M v0 1)) dX2_leftAt_88 lk_126 (by decide) (by decide) rfl (fun _ => rfl) h7 ?_
        refine x_iconst 91 (2 : Int32) dX2_leftAt_91 (by decide) ?_
        refine x_iadd 92 dX2_leftAt_92 ?_
        obtain ⟨h11, H⟩ := x_cnz H
        refine x_irem 93 dX2_leftAt_93 h11 ?_
        refine x_isub 94 dX2_leftAt_94 ?_
        cases H
        exact x_iret 95 dX2_leftAt_95 .int rfl rfl (Nat.le_of_ble_eq_true rfl) (Nat.le_of_ble_eq_true rfl) ⟨rfl, rfl⟩
      · replace H := x_ifn c10 H
        by_cases c12 : (x_i M v0 0) = (4 : Int32)
        · replace H := x_ifp c12 H
          refine x_tableIn (off := 53) 43 96 dX2_leftAt_43 (by rw [c12]; decide) (by rw [c12]; decide) (by rw [c12]; rfl) (by decide) ?_
          refine x_iload 96 5 dX2_leftAt_96 rfl ?_
          refine x_if_eq 98 105 dX2_leftAt_98 (by decide) (fun c13 => ?_) (fun c13 => ?_)
          · replace H := x_ifp c13 H
            refine x_iload_n 105 1 dX2_leftAt_105 rfl rfl ?_
            cases H
            exact x_iret 106 dX2_leftAt_106 .int rfl rfl (Nat.le_of_ble_eq_true rfl) (Nat.le_of_ble_eq_true rfl) ⟨rfl, rfl⟩
          · replace H := x_ifn c13 H
            refine x_iconst 101 (0 : Int32) dX2_leftAt_101 (by decide) ?_
            refine x_goto 102 106 dX2_leftAt_102 (by decide) ?_
            cases H
            exact x_iret 106 dX2_leftAt_106 .int rfl rfl (Nat.le_of_ble_eq_true rfl) (Nat.le_of_ble_eq_true rfl) ⟨rfl, rfl⟩
        · replace H := x_ifn c12 H
          by_cases c14 : (x_i M v0 0) = (5 : Int32)
          · replace H := x_ifp c14 H
            refine x_tableIn (off := 64) 43 107 dX2_leftAt_43 (by rw [c14]; decide) (by rw [c14]; decide) (by rw [c14]; rfl) (by decide) ?_
            refine x_iload_n 107 1 dX2_leftAt_107 rfl rfl ?_
            refine x_iload 108 4 dX2_leftAt_108 rfl ?_
            refine x_isub 110 dX2_leftAt_110 ?_
            refine x_aload_n 111 0 dX2_leftAt_111 rfl rfl ?_
            refine x_getf 112 15 2 1 (.int (x_i M v0 1)) dX2_leftAt_112 lk_126 (by decide) (by decide) rfl (fun _ => rfl) h7 ?_
            refine x_icmp_gt 115 122 dX2_leftAt_115 (by decide) (fun c15 => ?_) (fun c15 => ?_)
            · replace H := x_ifp c15 H
              refine x_iload 122 4 dX2_leftAt_122 rfl ?_
              cases H
              exact x_iret 124 dX2_leftAt_124 .int rfl rfl (Nat.le_of_ble_eq_true rfl) (Nat.le_of_ble_eq_true rfl) ⟨rfl, rfl⟩
            · replace H := x_ifn c15 H
              refine x_iload_n 118 1 dX2_leftAt_118 rfl rfl ?_
              refine x_goto 119 124 dX2_leftAt_119 (by decide) ?_
              cases H
              exact x_iret 124 dX2_leftAt_124 .int rfl rfl (Nat.le_of_ble_eq_true rfl) (Nat.le_of_ble_eq_true rfl) ⟨rfl, rfl⟩
          · replace H := x_ifn c14 H
            by_cases c16 : (x_i M v0 0) = (6 : Int32)
            · replace H := x_ifp c16 H
              refine x_tableIn (off := 82) 43 125 dX2_leftAt_43 (by rw [c16]; decide) (by rw [c16]; decide) (by rw [c16]; rfl) (by decide) ?_
              refine x_iload 125 5 dX2_leftAt_125 rfl ?_
              refine x_if_eq 127 136 dX2_leftAt_127 (by decide) (fun c17 => ?_) (fun c17 => ?_)
              · replace H := x_ifp c17 H
                refine x_iload_n 136 1 dX2_leftAt_136 rfl rfl ?_
                cases H
                exact x_iret 137 dX2_leftAt_137 .int rfl rfl (Nat.le_of_ble_eq_true rfl) (Nat.le_of_ble_eq_true rfl) ⟨rfl, rfl⟩
              · replace H := x_ifn c17 H
                refine x_iload_n 130 1 dX2_leftAt_130 rfl rfl ?_
                refine x_iconst 131 (2 : Int32) dX2_leftAt_131 (by decide) ?_
                refine x_idiv 132 dX2_leftAt_132 (by decide) ?_
                refine x_goto 133 137 dX2_leftAt_133 (by decide) ?_
                cases H
                exact x_iret 137 dX2_leftAt_137 .int rfl rfl (Nat.le_of_ble_eq_true rfl) (Nat.le_of_ble_eq_true rfl) ⟨rfl, rfl⟩
            · replace H := x_ifn c16 H
              refine x_tableOut 43 138 dX2_leftAt_43 (by have n0 := lv_neT (a := 1) c8 (by decide); have n1 := lv_neT (a := 2) c9 (by decide); have n2 := lv_neT (a := 3) c10 (by decide); have n3 := lv_neT (a := 4) c12 (by decide); have n4 := lv_neT (a := 5) c14 (by decide); have n5 := lv_neT (a := 6) c16 (by decide); omega) (by decide) ?_
              refine x_iconst 138 (0 : Int32) dX2_leftAt_138 (by decide) ?_
              cases H
              exact x_iret 139 dX2_leftAt_139 .int rfl rfl (Nat.le_of_ble_eq_true rfl) (Nat.le_of_ble_eq_true rfl) ⟨rfl, rfl⟩

def f_X2_leftAt (v0 : Nat) (v1 : Int32) (v2 : Int32) (v3 : Int32) (M : XM) : Option (Int32 × XM) :=
  if v3 < (1 : Int32) then (some (v1, M)) else (if x_tag M v0 = 2 + 10 then (if (0 : Int32) ≤ (x_i M v0 1) then (if v3 = 0 then none else if ((x_i M v0 1) + (1 : Int32)) = 0 then none else if (v2 - v2 / ((x_i M v0 1) + (1 : Int32)) * ((x_i M v0 1) + (1 : Int32))) = 0 then (f_X2_leftAt_37 v0 v1 (v1 - (v1 - v1 / v3 * v3)) (1 : Int32) M) else (f_X2_leftAt_37 v0 v1 (v1 - (v1 - v1 / v3 * v3)) (0 : Int32) M)) else (some (v1, M))) else none)
set_option maxRecDepth 20000 in
set_option maxHeartbeats 4000000 in
theorem t_X2_leftAt (l : Launch) {v0 : Nat} {v1 : Int32} {v2 : Int32} {v3 : Int32} {M : XM} {q : Int32 × XM} (H : f_X2_leftAt v0 v1 v2 v3 M = some q) : AW l m_X2_leftAt 1 0 0 (x_Ri q) 0 0 0 [some (.ref v0), some (.int v1), some (.int v2), some (.int v3), none, none] [] M := by
  unfold f_X2_leftAt at H
  refine x_iload_n 0 3 dX2_leftAt_0 rfl rfl ?_
  refine x_iconst 1 (1 : Int32) dX2_leftAt_1 (by decide) ?_
  refine x_icmp_lt 2 12 dX2_leftAt_2 (by decide) (fun c1 => ?_) (fun c1 => ?_)
  · replace H := x_ifp c1 H
    refine x_iload_n 12 1 dX2_leftAt_12 rfl rfl ?_
    cases H
    exact x_iret 13 dX2_leftAt_13 .int rfl rfl (Nat.le_of_ble_eq_true rfl) (Nat.le_of_ble_eq_true rfl) ⟨rfl, rfl⟩
  · replace H := x_ifn c1 H
    refine x_aload_n 5 0 dX2_leftAt_5 rfl rfl ?_
    obtain ⟨h2, H⟩ := x_ckp H
    refine x_getf 6 15 2 1 (.int (x_i M v0 1)) dX2_leftAt_6 lk_126 (by decide) (by decide) rfl (fun _ => rfl) h2 ?_
    refine x_if_ge 9 14 dX2_leftAt_9 (by decide) (fun c3 => ?_) (fun c3 => ?_)
    · replace H := x_ifp c3 H
      refine x_iload_n 14 1 dX2_leftAt_14 rfl rfl ?_
      refine x_iload_n 15 1 dX2_leftAt_15 rfl rfl ?_
      refine x_iload_n 16 3 dX2_leftAt_16 rfl rfl ?_
      obtain ⟨h4, H⟩ := x_cnz H
      refine x_irem 17 dX2_leftAt_17 h4 ?_
      refine x_isub 18 dX2_leftAt_18 ?_
      refine x_istore 19 4 [some (.ref v0), some (.int v1), some (.int v2), some (.int v3), some (.int (v1 - (v1 - v1 / v3 * v3))), none] dX2_leftAt_19 rfl (Nat.le_of_ble_eq_true rfl) rfl ?_
      refine x_iload_n 21 2 dX2_leftAt_21 rfl rfl ?_
      refine x_aload_n 22 0 dX2_leftAt_22 rfl rfl ?_
      refine x_getf 23 15 2 1 (.int (x_i M v0 1)) dX2_leftAt_23 lk_126 (by decide) (by decide) rfl (fun _ => rfl) h2 ?_
      refine x_iconst 26 (1 : Int32) dX2_leftAt_26 (by decide) ?_
      refine x_iadd 27 dX2_leftAt_27 ?_
      obtain ⟨h5, H⟩ := x_cnz H
      refine x_irem 28 dX2_leftAt_28 h5 ?_
      refine x_if_ne 29 36 dX2_leftAt_29 (by decide) (fun c6 => ?_) (fun c6 => ?_)
      · replace H := x_ifn c6 H
        refine x_iconst 36 (0 : Int32) dX2_leftAt_36 (by decide) ?_
        exact x_wk (le_s (le_s (le_n (le_n (le_s (le_s le_0)))))) (t_X2_leftAt_37 l H)
      · replace H := x_ifp c6 H
        refine x_iconst 32 (1 : Int32) dX2_leftAt_32 (by decide) ?_
        refine x_goto 33 37 dX2_leftAt_33 (by decide) ?_
        exact x_wk (le_s (le_s (le_n (le_n (le_s (le_s le_0)))))) (t_X2_leftAt_37 l H)
    · replace H := x_ifn c3 H
      refine x_iload_n 12 1 dX2_leftAt_12 rfl rfl ?_
      cases H
      exact x_iret 13 dX2_leftAt_13 .int rfl rfl (Nat.le_of_ble_eq_true rfl) (Nat.le_of_ble_eq_true rfl) ⟨rfl, rfl⟩

theorem ct_X2_leftAt (l : Launch) {v0 : Nat} {v1 : Int32} {v2 : Int32} {v3 : Int32} {M : XM} {q : Int32 × XM} (H : f_X2_leftAt v0 v1 v2 v3 M = some q) : Ct l m_X2_leftAt 1 0 0 [(.ref v0), (.int v1), (.int v2), (.int v3)] M (x_Ri q) := x_met l m_X2_leftAt 1 0 0 [(.ref v0), (.int v1), (.int v2), (.int v3)] M (x_Ri q) _ rfl rfl (Nat.le_of_ble_eq_true rfl) (t_X2_leftAt l H)
theorem lk_710 : Cond.code yX2_leftAt cX2_leftAt 6 (some .int) ∈ x_TB := x_tb (k := 710) (by decide +kernel) rfl
theorem lk_793 : Cond.methodLink RX1 97 yX2_leftAt ∈ x_TB := x_tb (k := 793) (by decide +kernel) rfl
theorem lk_709 : Cond.selects RX2 yX2_leftAt yX2_leftAt ∈ x_TB := x_tb (k := 709) (by decide +kernel) rfl
theorem lk_708 : Cond.instanceMethod yX2_leftAt ∈ x_TB := x_tb (k := 708) (by decide +kernel) rfl
abbrev m_X1_noteLefts : XU := (yX1_noteLefts, cX1_noteLefts, 5, none)
theorem cn_X1_noteLefts : m_X1_noteLefts.1.cls ≠ "java/lang/invoke/MethodHandle" ∧ m_X1_noteLefts.1.cls ≠ "java/lang/invoke/VarHandle" ∧ (parseMethodDescriptor m_X1_noteLefts.1.desc).map (fun q => q.parameters.length) = some 2 := by decide +kernel
def bd_X1_noteLefts_13 (κ2 : Nat → Nat → Int32 → Int32 → XM → Option XM) (κ13 : Nat → Nat → Int32 → Int32 → Int32 → XM → Option XM) (v0 : Nat) (v1 : Nat) (v2 : Int32) (v3 : Int32) (v4 : Int32) (M : XM) : Option XM :=
  if x_tag M v0 = 1 + 10 then (if (x_i M v0 3) ≤ v4 then (κ2 v0 v1 v2 (v3 + (1 : Int32)) M) else (if x_tag M v1 = 2 + 10 then (x_bd (f_X2_leftAt v1 v4 (v3 + (1 : Int32)) v2 M) (fun r7 M6 => if x_at M6 (x_r M v0 2) 1 ((v3 * (200 : Int32)) + v4) = true then (x_lt (x_wi M6 (x_r M v0 2) ((v3 * (200 : Int32)) + v4).toNatClampNeg r7) (fun M10 => κ13 v0 v1 v2 v3 (v4 + (1 : Int32)) M10)) else none)) else none)) else none
set_option maxRecDepth 20000 in
set_option maxHeartbeats 4000000 in
theorem tb_X1_noteLefts_13 (l : Launch) {κ2 : Nat → Nat → Int32 → Int32 → XM → Option XM} {κ13 : Nat → Nat → Int32 → Int32 → Int32 → XM → Option XM} {v0 : Nat} {v1 : Nat} {v2 : Int32} {v3 : Int32} {v4 : Int32} {M : XM} {q : XM} (hκ2 : ∀ (v0 : Nat) (v1 : Nat) (v2 : Int32) (v3 : Int32) (M : XM), κ2 v0 v1 v2 v3 M = some q → AW l m_X1_noteLefts 2 0 0 (x_Rv q) 0 0 2 [some (.ref v0), some (.ref v1), some (.int v2), some (.int v3), none] [] M) (hκ13 : ∀ (v0 : Nat) (v1 : Nat) (v2 : Int32) (v3 : Int32) (v4 : Int32) (M : XM), κ13 v0 v1 v2 v3 v4 M = some q → AW l m_X1_noteLefts 2 0 0 (x_Rv q) 0 0 13 [some (.ref v0), some (.ref v1), some (.int v2), some (.int v3), some (.int v4)] [] M) (H : bd_X1_noteLefts_13 κ2 κ13 v0 v1 v2 v3 v4 M = some q) : AW l m_X1_noteLefts 2 0 0 (x_Rv q) 0 0 13 [some (.ref v0), some (.ref v1), some (.int v2), some (.int v3), some (.int v4)] [] M := by
  unfold bd_X1_noteLefts_13 at H
  refine x_iload 13 4 dX1_noteLefts_13 rfl ?_
  refine x_aload_n 15 0 dX1_noteLefts_15 rfl rfl ?_
  obtain ⟨h3, H⟩ := x_ckp H
  refine x_getf 16 50 1 3 (.int (x_i M v0 3)) dX1_noteLefts_16 lk_271 (by decide) (by decide) rfl (fun _ => rfl) h3 ?_
  refine x_icmp_ge 19 51 dX1_noteLefts_19 (by decide) (fun c4 => ?_) (fun c4 => ?_)
  · replace H := x_ifp c4 H
    refine x_iinc 51 3 (v3 + (1 : Int32)) [some (.ref v0), some (.ref v1), some (.int v2), some (.int (v3 + (1 : Int32))), some (.int v4)] dX1_noteLefts_51 rfl (congrArg (fun z : Int32 => v3 + z) (show Int32.ofInt (1) = (1 : Int32) by decide)) rfl (Nat.le_of_ble_eq_true rfl) rfl ?_
    refine x_goto 54 2 dX1_noteLefts_54 (by decide) ?_
    exact x_wk (le_s (le_s (le_s (le_s (le_n le_0))))) (hκ2 _ _ _ _ _ H)
  · replace H := x_ifn c4 H
    refine x_aload_n 22 0 dX1_noteLefts_22 rfl rfl ?_
    refine x_getf 23 18 1 2 (.ref (x_r M v0 2)) dX1_noteLefts_23 lk_270 (by decide) (by decide) rfl (fun _ => rfl) h3 ?_
    refine x_iload_n 26 3 dX1_noteLefts_26 rfl rfl ?_
    refine x_sipush 27 (200 : Int32) dX1_noteLefts_27 (by decide) ?_
    refine x_imul 30 dX1_noteLefts_30 ?_
    refine x_iload 31 4 dX1_noteLefts_31 rfl ?_
    refine x_iadd 33 dX1_noteLefts_33 ?_
    refine x_aload_n 34 1 dX1_noteLefts_34 rfl rfl ?_
    refine x_iload 35 4 dX1_noteLefts_35 rfl ?_
    refine x_iload_n 37 3 dX1_noteLefts_37 rfl rfl ?_
    refine x_iconst 38 (1 : Int32) dX1_noteLefts_38 (by decide) ?_
    refine x_iadd 39 dX1_noteLefts_39 ?_
    refine x_iload_n 40 2 dX1_noteLefts_40 rfl rfl ?_
    obtain ⟨h5, H⟩ := x_ckp H
    obtain ⟨r7, M6, e8, H⟩ := x_bd_of H
    refine x_callV 41 97 2 [(.int v4), (.int (v3 + (1 : Int32))), (.int v2)] [(.int ((v3 * (200 : Int32)) + v4)), (.ref (x_r M v0 2))] dX1_noteLefts_41 (ct_X2_leftAt l e8) lk_793 lk_708 lk_709 (by decide) h5 lk_87 lk_710 ⟨cn_X2_leftAt, (by decide), by decide⟩ rfl (Nat.le_of_ble_eq_true rfl) (Nat.le_of_ble_eq_true rfl) (Nat.le_of_ble_eq_true rfl) (x_ri ?_)
    obtain ⟨h9, H⟩ := x_ckp H
    obtain ⟨M10, w11, H⟩ := x_lt_of H
    have h12 : x_at M10 (x_r M v0 2) 1 ((v3 * (200 : Int32)) + v4) = true := by rw [w11]; exact h9
    have h13 : x_tag M10 (x_r M v0 2) = 1 := by rw [w11]; exact (x_at_1 h9)
    refine x_iast' 44 dX1_noteLefts_44 h9 w11 ?_
    refine x_iinc 45 4 (v4 + (1 : Int32)) [some (.ref v0), some (.ref v1), some (.int v2), some (.int v3), some (.int (v4 + (1 : Int32)))] dX1_noteLefts_45 rfl (congrArg (fun z : Int32 => v4 + z) (show Int32.ofInt (1) = (1 : Int32) by decide)) rfl (Nat.le_of_ble_eq_true rfl) rfl ?_
    refine x_goto 48 13 dX1_noteLefts_48 (by decide) ?_
    exact hκ13 _ _ _ _ _ _ H

def lp_X1_noteLefts_13 (κ2 : Nat → Nat → Int32 → Int32 → XM → Option XM) (n : Nat) : Nat → Nat → Int32 → Int32 → Int32 → XM → Option XM := x_rec (fun _ _ _ _ _ _ => none) (bd_X1_noteLefts_13 κ2) n
theorem t_X1_noteLefts_13 (l : Launch) {κ2 : Nat → Nat → Int32 → Int32 → XM → Option XM} {q : XM} (hκ2 : ∀ (v0 : Nat) (v1 : Nat) (v2 : Int32) (v3 : Int32) (M : XM), κ2 v0 v1 v2 v3 M = some q → AW l m_X1_noteLefts 2 0 0 (x_Rv q) 0 0 2 [some (.ref v0), some (.ref v1), some (.int v2), some (.int v3), none] [] M) : ∀ (n : Nat) (v0 : Nat) (v1 : Nat) (v2 : Int32) (v3 : Int32) (v4 : Int32) (M : XM), lp_X1_noteLefts_13 κ2 n v0 v1 v2 v3 v4 M = some q → AW l m_X1_noteLefts 2 0 0 (x_Rv q) 0 0 13 [some (.ref v0), some (.ref v1), some (.int v2), some (.int v3), some (.int v4)] [] M := by
  intro n
  induction n with
  | zero => intro v0 v1 v2 v3 v4 M H; cases H
  | succ n ih => intro v0 v1 v2 v3 v4 M H; exact tb_X1_noteLefts_13 l hκ2 ih H
def bd_X1_noteLefts_2 (κ2 : Nat → Nat → Int32 → Int32 → XM → Option XM) (v0 : Nat) (v1 : Nat) (v2 : Int32) (v3 : Int32) (M : XM) : Option XM :=
  if x_tag M v0 = 1 + 10 then (if (x_i M v0 5) ≤ v3 then (some M) else (lp_X1_noteLefts_13 κ2 x_fuel v0 v1 v2 v3 (0 : Int32) M)) else none
set_option maxRecDepth 20000 in
set_option maxHeartbeats 4000000 in
theorem tb_X1_noteLefts_2 (l : Launch) {κ2 : Nat → Nat → Int32 → Int32 → XM → Option XM} {v0 : Nat} {v1 : Nat} {v2 : Int32} {v3 : Int32} {M : XM} {q : XM} (hκ2 : ∀ (v0 : Nat) (v1 : Nat) (v2 : Int32) (v3 : Int32) (M : XM), κ2 v0 v1 v2 v3 M = some q → AW l m_X1_noteLefts 2 0 0 (x_Rv q) 0 0 2 [some (.ref v0), some (.ref v1), some (.int v2), some (.int v3), none] [] M) (H : bd_X1_noteLefts_2 κ2 v0 v1 v2 v3 M = some q) : AW l m_X1_noteLefts 2 0 0 (x_Rv q) 0 0 2 [some (.ref v0), some (.ref v1), some (.int v2), some (.int v3), none] [] M := by
  unfold bd_X1_noteLefts_2 at H
  refine x_iload_n 2 3 dX1_noteLefts_2 rfl rfl ?_
  refine x_aload_n 3 0 dX1_noteLefts_3 rfl rfl ?_
  obtain ⟨h1, H⟩ := x_ckp H
  refine x_getf 4 64 1 5 (.int (x_i M v0 5)) dX1_noteLefts_4 lk_273 (by decide) (by decide) rfl (fun _ => rfl) h1 ?_
  refine x_icmp_ge 7 57 dX1_noteLefts_7 (by decide) (fun c2 => ?_) (fun c2 => ?_)
  · replace H := x_ifp c2 H
    cases H
    exact x_vret 57 dX1_noteLefts_57 rfl (Nat.le_of_ble_eq_true rfl) (Nat.le_of_ble_eq_true rfl) ⟨rfl, rfl⟩
  · replace H := x_ifn c2 H
    refine x_iconst 10 (0 : Int32) dX1_noteLefts_10 (by decide) ?_
    refine x_istore 11 4 [some (.ref v0), some (.ref v1), some (.int v2), some (.int v3), some (.int (0 : Int32))] dX1_noteLefts_11 rfl (Nat.le_of_ble_eq_true rfl) rfl ?_
    exact t_X1_noteLefts_13 l hκ2 _ _ _ _ _ _ _ H

def lp_X1_noteLefts_2 (n : Nat) : Nat → Nat → Int32 → Int32 → XM → Option XM := x_rec (fun _ _ _ _ _ => none) (bd_X1_noteLefts_2) n
theorem t_X1_noteLefts_2 (l : Launch) {q : XM} : ∀ (n : Nat) (v0 : Nat) (v1 : Nat) (v2 : Int32) (v3 : Int32) (M : XM), lp_X1_noteLefts_2 n v0 v1 v2 v3 M = some q → AW l m_X1_noteLefts 2 0 0 (x_Rv q) 0 0 2 [some (.ref v0), some (.ref v1), some (.int v2), some (.int v3), none] [] M := by
  intro n
  induction n with
  | zero => intro v0 v1 v2 v3 M H; cases H
  | succ n ih => intro v0 v1 v2 v3 M H; exact tb_X1_noteLefts_2 l ih H
def f_X1_noteLefts (v0 : Nat) (v1 : Nat) (v2 : Int32) (M : XM) : Option XM :=
  lp_X1_noteLefts_2 x_fuel v0 v1 v2 (0 : Int32) M
set_option maxRecDepth 20000 in
set_option maxHeartbeats 4000000 in
theorem t_X1_noteLefts (l : Launch) {v0 : Nat} {v1 : Nat} {v2 : Int32} {M : XM} {q : XM} (H : f_X1_noteLefts v0 v1 v2 M = some q) : AW l m_X1_noteLefts 2 0 0 (x_Rv q) 0 0 0 [some (.ref v0), some (.ref v1), some (.int v2), none, none] [] M := by
  unfold f_X1_noteLefts at H
  refine x_iconst 0 (0 : Int32) dX1_noteLefts_0 (by decide) ?_
  refine x_istore_n 1 3 [some (.ref v0), some (.ref v1), some (.int v2), some (.int (0 : Int32)), none] dX1_noteLefts_1 rfl rfl (Nat.le_of_ble_eq_true rfl) rfl ?_
  exact t_X1_noteLefts_2 l _ _ _ _ _ _ H

theorem ct_X1_noteLefts (l : Launch) {v0 : Nat} {v1 : Nat} {v2 : Int32} {M : XM} {q : XM} (H : f_X1_noteLefts v0 v1 v2 M = some q) : Ct l m_X1_noteLefts 2 0 0 [(.ref v0), (.ref v1), (.int v2)] M (x_Rv q) := x_met l m_X1_noteLefts 2 0 0 [(.ref v0), (.ref v1), (.int v2)] M (x_Rv q) _ rfl rfl (Nat.le_of_ble_eq_true rfl) (t_X1_noteLefts l H)
theorem lk_90 : Cond.initialized RX1 ∈ x_TB := x_tb (k := 90) (by decide +kernel) rfl
theorem lk_792 : Cond.code yX1_noteLefts cX1_noteLefts 5 none ∈ x_TB := x_tb (k := 792) (by decide +kernel) rfl
theorem lk_789 : Cond.methodLink RX1 73 yX1_noteLefts ∈ x_TB := x_tb (k := 789) (by decide +kernel) rfl
theorem lk_19 : Cond.selects RX1 yX1_noteLefts yX1_noteLefts ∈ x_TB := x_tb (k := 19) (by decide +kernel) rfl
theorem lk_791 : Cond.instanceMethod yX1_noteLefts ∈ x_TB := x_tb (k := 791) (by decide +kernel) rfl
theorem lk_274 : Cond.fieldLink RX1 34 RX1 "arrived" "I" ∈ x_TB := x_tb (k := 274) (by decide +kernel) rfl
theorem lk_275 : Cond.fieldLink RX1 77 RX1 "low" "I" ∈ x_TB := x_tb (k := 275) (by decide +kernel) rfl
theorem lk_276 : Cond.fieldLink RX1 80 RX1 "high" "I" ∈ x_TB := x_tb (k := 276) (by decide +kernel) rfl
theorem lk_154 : Cond.fieldLink RX4 11 RX4 "counters" "[LWhatDidYouSay$Counter;" ∈ x_TB := x_tb (k := 154) (by decide +kernel) rfl
theorem lk_134 : Cond.fieldLink RX4 58 RX2 "at" "I" ∈ x_TB := x_tb (k := 134) (by decide +kernel) rfl
theorem lk_162 : Cond.fieldLink RX4 17 RX4 "n" "I" ∈ x_TB := x_tb (k := 162) (by decide +kernel) rfl
abbrev m_X4_isThrough : XU := (yX4_isThrough, cX4_isThrough, 2, (some .boolean))
theorem cn_X4_isThrough : m_X4_isThrough.1.cls ≠ "java/lang/invoke/MethodHandle" ∧ m_X4_isThrough.1.cls ≠ "java/lang/invoke/VarHandle" ∧ (parseMethodDescriptor m_X4_isThrough.1.desc).map (fun q => q.parameters.length) = some 1 := by decide +kernel
def f_X4_isThrough (v0 : Nat) (v1 : Int32) (M : XM) : Option (Int32 × XM) :=
  if x_tag M v0 = 4 + 10 then (if x_at M (x_r M v0 0) 3 v1 = true then (if x_tag M (x_r M (x_r M v0 0) v1.toNatClampNeg) = 2 + 10 then (if (x_i M (x_r M (x_r M v0 0) v1.toNatClampNeg) 2) < (x_i M v0 2) then (some ((0 : Int32), M)) else (some ((1 : Int32), M))) else none) else none) else none
set_option maxRecDepth 20000 in
set_option maxHeartbeats 4000000 in
theorem t_X4_isThrough (l : Launch) {v0 : Nat} {v1 : Int32} {M : XM} {q : Int32 × XM} (H : f_X4_isThrough v0 v1 M = some q) : AW l m_X4_isThrough 1 0 0 (x_Ri q) 0 0 0 [some (.ref v0), some (.int v1)] [] M := by
  unfold f_X4_isThrough at H
  refine x_aload_n 0 0 dX4_isThrough_0 rfl rfl ?_
  obtain ⟨h1, H⟩ := x_ckp H
  refine x_getf 1 11 4 0 (.ref (x_r M v0 0)) dX4_isThrough_1 lk_154 (by decide) (by decide) rfl (fun _ => rfl) h1 ?_
  refine x_iload_n 4 1 dX4_isThrough_4 rfl rfl ?_
  obtain ⟨h2, H⟩ := x_ckp H
  refine x_aald3 5 dX4_isThrough_5 h2 ?_
  obtain ⟨h3, H⟩ := x_ckp H
  refine x_getf 6 58 2 2 (.int (x_i M (x_r M (x_r M v0 0) v1.toNatClampNeg) 2)) dX4_isThrough_6 lk_134 (by decide) (by decide) rfl (fun _ => rfl) h3 ?_
  refine x_aload_n 9 0 dX4_isThrough_9 rfl rfl ?_
  refine x_getf 10 17 4 2 (.int (x_i M v0 2)) dX4_isThrough_10 lk_162 (by decide) (by decide) rfl (fun _ => rfl) h1 ?_
  refine x_icmp_lt 13 20 dX4_isThrough_13 (by decide) (fun c4 => ?_) (fun c4 => ?_)
  · replace H := x_ifp c4 H
    refine x_iconst 20 (0 : Int32) dX4_isThrough_20 (by decide) ?_
    cases H
    exact x_iret 21 dX4_isThrough_21 .boolean rfl rfl (Nat.le_of_ble_eq_true rfl) (Nat.le_of_ble_eq_true rfl) ⟨rfl, rfl⟩
  · replace H := x_ifn c4 H
    refine x_iconst 16 (1 : Int32) dX4_isThrough_16 (by decide) ?_
    refine x_goto 17 21 dX4_isThrough_17 (by decide) ?_
    cases H
    exact x_iret 21 dX4_isThrough_21 .boolean rfl rfl (Nat.le_of_ble_eq_true rfl) (Nat.le_of_ble_eq_true rfl) ⟨rfl, rfl⟩

theorem ct_X4_isThrough (l : Launch) {v0 : Nat} {v1 : Int32} {M : XM} {q : Int32 × XM} (H : f_X4_isThrough v0 v1 M = some q) : Ct l m_X4_isThrough 1 0 0 [(.ref v0), (.int v1)] M (x_Ri q) := x_met l m_X4_isThrough 1 0 0 [(.ref v0), (.int v1)] M (x_Ri q) _ rfl rfl (Nat.le_of_ble_eq_true rfl) (t_X4_isThrough l H)
theorem lk_86 : Cond.initialized RX4 ∈ x_TB := x_tb (k := 86) (by decide +kernel) rfl
theorem lk_697 : Cond.code yX4_isThrough cX4_isThrough 2 (some .boolean) ∈ x_TB := x_tb (k := 697) (by decide +kernel) rfl
theorem lk_794 : Cond.methodLink RX1 83 yX4_isThrough ∈ x_TB := x_tb (k := 794) (by decide +kernel) rfl
theorem lk_696 : Cond.selects RX4 yX4_isThrough yX4_isThrough ∈ x_TB := x_tb (k := 696) (by decide +kernel) rfl
theorem lk_695 : Cond.instanceMethod yX4_isThrough ∈ x_TB := x_tb (k := 695) (by decide +kernel) rfl
theorem lk_140 : Cond.fieldLink RX1 88 RX2 "heard" "I" ∈ x_TB := x_tb (k := 140) (by decide +kernel) rfl
abbrev m_X8_leftOver : XU := (yX8_leftOver, cX8_leftOver, 2, (some .int))
theorem cn_X8_leftOver : m_X8_leftOver.1.cls ≠ "java/lang/invoke/MethodHandle" ∧ m_X8_leftOver.1.cls ≠ "java/lang/invoke/VarHandle" ∧ (parseMethodDescriptor m_X8_leftOver.1.desc).map (fun q => q.parameters.length) = some 2 := by decide +kernel
def f_X8_leftOver (v0 : Int32) (v1 : Int32) (M : XM) : Option (Int32 × XM) :=
  if (1 : Int32) ≤ v1 then (if v1 = 0 then none else some ((v0 - v0 / v1 * v1), M)) else (some ((0 : Int32), M))
set_option maxRecDepth 20000 in
set_option maxHeartbeats 4000000 in
theorem t_X8_leftOver (l : Launch) {v0 : Int32} {v1 : Int32} {M : XM} {q : Int32 × XM} (H : f_X8_leftOver v0 v1 M = some q) : AW l m_X8_leftOver 1 0 0 (x_Ri q) 0 0 0 [some (.int v0), some (.int v1)] [] M := by
  unfold f_X8_leftOver at H
  refine x_iload_n 0 1 dX8_leftOver_0 rfl rfl ?_
  refine x_iconst 1 (1 : Int32) dX8_leftOver_1 (by decide) ?_
  refine x_icmp_ge 2 9 dX8_leftOver_2 (by decide) (fun c1 => ?_) (fun c1 => ?_)
  · replace H := x_ifp c1 H
    refine x_iload_n 9 0 dX8_leftOver_9 rfl rfl ?_
    refine x_iload_n 10 1 dX8_leftOver_10 rfl rfl ?_
    obtain ⟨h2, H⟩ := x_cnz H
    refine x_irem 11 dX8_leftOver_11 h2 ?_
    cases H
    exact x_iret 12 dX8_leftOver_12 .int rfl rfl (Nat.le_of_ble_eq_true rfl) (Nat.le_of_ble_eq_true rfl) ⟨rfl, rfl⟩
  · replace H := x_ifn c1 H
    refine x_iconst 5 (0 : Int32) dX8_leftOver_5 (by decide) ?_
    refine x_goto 6 12 dX8_leftOver_6 (by decide) ?_
    cases H
    exact x_iret 12 dX8_leftOver_12 .int rfl rfl (Nat.le_of_ble_eq_true rfl) (Nat.le_of_ble_eq_true rfl) ⟨rfl, rfl⟩

theorem ct_X8_leftOver (l : Launch) {v0 : Int32} {v1 : Int32} {M : XM} {q : Int32 × XM} (H : f_X8_leftOver v0 v1 M = some q) : Ct l m_X8_leftOver 1 0 0 [(.int v0), (.int v1)] M (x_Ri q) := x_met l m_X8_leftOver 1 0 0 [(.int v0), (.int v1)] M (x_Ri q) _ rfl rfl (Nat.le_of_ble_eq_true rfl) (t_X8_leftOver l H)
theorem lk_513 : Cond.code yX8_leftOver cX8_leftOver 2 (some .int) ∈ x_TB := x_tb (k := 513) (by decide +kernel) rfl
theorem lk_512 : Cond.static yX8_leftOver ∈ x_TB := x_tb (k := 512) (by decide +kernel) rfl
theorem lk_133 : Cond.fieldLink RX1 94 RX2 "at" "I" ∈ x_TB := x_tb (k := 133) (by decide +kernel) rfl
theorem lk_795 : Cond.constant RX1 87 (1000000 : Int32) ∈ x_TB := x_tb (k := 795) (by decide +kernel) rfl
theorem lk_128 : Cond.fieldLink RX1 61 RX2 "a" "I" ∈ x_TB := x_tb (k := 128) (by decide +kernel) rfl
abbrev m_X1_begin : XU := (yX1_begin, cX1_begin, 5, none)
theorem cn_X1_begin : m_X1_begin.1.cls ≠ "java/lang/invoke/MethodHandle" ∧ m_X1_begin.1.cls ≠ "java/lang/invoke/VarHandle" ∧ (parseMethodDescriptor m_X1_begin.1.desc).map (fun q => q.parameters.length) = some 3 := by decide +kernel
def f_X1_begin_55 (v0 : Nat) (v1 : Nat) (v2 : Int32) (v3 : Int32) (v4 : Nat) (s0 : Int32) (s1 : Nat) (M : XM) : Option XM :=
  if x_tag M s1 = 1 + 10 then (x_lt (x_wi M s1 5 s0) (fun M22 => if x_tag M22 v0 = 1 + 10 then (x_bv (f_J7_fill_53178 (x_r M22 v0 0) (0 : Int32) M22) (fun M26 => if x_tag M26 v0 = 1 + 10 then (x_bv (f_J7_fill_53178 (x_r M26 v0 1) (0 : Int32) M26) (fun M30 => if x_tag M30 v0 = 1 + 10 then (x_bv (f_X1_noteLefts v0 v4 v3 M30) (fun M34 => if x_tag M34 v0 = 1 + 10 then (x_lt (x_wi M34 v0 6 (0 : Int32)) (fun M38 => x_lt (x_wi M38 v0 7 (x_i M38 v0 3)) (fun M41 => x_lt (x_wi M41 v0 8 (-1 : Int32)) (fun M44 => if x_tag M44 v1 = 4 + 10 then (x_bd (f_X4_isThrough v1 v2 M44) (fun r49 M48 => if r49 = 0 then (if x_tag M48 v0 = 1 + 10 then (if x_tag M48 v4 = 2 + 10 then (x_bd (f_X8_leftOver (x_i M48 v4 4) (x_i M48 v0 5) M48) (fun r55 M54 => if x_tag M54 v4 = 2 + 10 then (if x_at M54 (x_r M48 v0 0) 1 ((r55 * (200 : Int32)) + (x_i M54 v4 2)) = true then (x_lt (x_wi M54 (x_r M48 v0 0) ((r55 * (200 : Int32)) + (x_i M54 v4 2)).toNatClampNeg (1000000 : Int32)) (fun M59 => if x_tag M59 v0 = 1 + 10 then (x_lt (x_wi M59 v0 7 (x_i M59 v4 2)) (fun M65 => x_lt (x_wi M65 v0 8 (x_i M65 v4 2)) (fun M71 => some M71))) else none)) else none) else none)) else none) else none) else (if x_tag M48 v0 = 1 + 10 then (x_lt (x_wi M48 v0 6 (1000000 : Int32)) (fun M78 => some M78)) else none))) else none)))) else none)) else none)) else none)) else none)) else none
set_option maxRecDepth 20000 in
set_option maxHeartbeats 4000000 in
theorem t_X1_begin_55 (l : Launch) {v0 : Nat} {v1 : Nat} {v2 : Int32} {v3 : Int32} {v4 : Nat} {s0 : Int32} {s1 : Nat} {M : XM} {q : XM} (H : f_X1_begin_55 v0 v1 v2 v3 v4 s0 s1 M = some q) : AW l m_X1_begin 4 0 0 (x_Rv q) 0 0 55 [some (.ref v0), some (.ref v1), some (.int v2), some (.int v3), some (.ref v4)] [(.int s0), (.ref s1)] M := by
  unfold f_X1_begin_55 at H
  obtain ⟨h21, H⟩ := x_ckp H
  obtain ⟨M22, w23, H⟩ := x_lt_of H
  have h24 : x_tag M22 s1 = 1 + 10 := by rw [w23]; exact h21
  refine x_putI' 55 64 1 5 dX1_begin_55 lk_273 (by decide) (by decide) rfl (Or.inl rfl) (Or.inl rfl) h21 w23 ?_
  refine x_aload_n 58 0 dX1_begin_58 rfl rfl ?_
  obtain ⟨h25, H⟩ := x_ckp H
  refine x_getf 59 9 1 0 (.ref (x_r M22 v0 0)) dX1_begin_59 lk_268 (by decide) (by decide) rfl (fun _ => rfl) h25 ?_
  refine x_iconst 62 (0 : Int32) dX1_begin_62 (by decide) ?_
  obtain ⟨M26, e28, H⟩ := x_bv_of H
  refine x_callS 63 67 [(.ref (x_r M22 v0 0)), (.int (0 : Int32))] [] dX1_begin_63 (ct_J7_fill_53178 l e28) lk_786 lk_787 lk_95 lk_788 ⟨cn_J7_fill_53178, (by decide), by decide⟩ rfl (Nat.le_of_ble_eq_true rfl) (Nat.le_of_ble_eq_true rfl) (Nat.le_of_ble_eq_true rfl) (x_rv ?_)
  refine x_aload_n 66 0 dX1_begin_66 rfl rfl ?_
  obtain ⟨h29, H⟩ := x_ckp H
  refine x_getf 67 15 1 1 (.ref (x_r M26 v0 1)) dX1_begin_67 lk_269 (by decide) (by decide) rfl (fun _ => rfl) h29 ?_
  refine x_iconst 70 (0 : Int32) dX1_begin_70 (by decide) ?_
  obtain ⟨M30, e32, H⟩ := x_bv_of H
  refine x_callS 71 67 [(.ref (x_r M26 v0 1)), (.int (0 : Int32))] [] dX1_begin_71 (ct_J7_fill_53178 l e32) lk_786 lk_787 lk_95 lk_788 ⟨cn_J7_fill_53178, (by decide), by decide⟩ rfl (Nat.le_of_ble_eq_true rfl) (Nat.le_of_ble_eq_true rfl) (Nat.le_of_ble_eq_true rfl) (x_rv ?_)
  refine x_aload_n 74 0 dX1_begin_74 rfl rfl ?_
  refine x_aload 75 4 dX1_begin_75 rfl ?_
  refine x_iload_n 77 3 dX1_begin_77 rfl rfl ?_
  obtain ⟨h33, H⟩ := x_ckp H
  obtain ⟨M34, e36, H⟩ := x_bv_of H
  refine x_callV 78 73 1 [(.ref v4), (.int v3)] [] dX1_begin_78 (ct_X1_noteLefts l e36) lk_789 lk_791 lk_19 (by decide) h33 lk_90 lk_792 ⟨cn_X1_noteLefts, (by decide), by decide⟩ rfl (Nat.le_of_ble_eq_true rfl) (Nat.le_of_ble_eq_true rfl) (Nat.le_of_ble_eq_true rfl) (x_rv ?_)
  refine x_aload_n 81 0 dX1_begin_81 rfl rfl ?_
  refine x_iconst 82 (0 : Int32) dX1_begin_82 (by decide) ?_
  obtain ⟨h37, H⟩ := x_ckp H
  obtain ⟨M38, w39, H⟩ := x_lt_of H
  have h40 : x_tag M38 v0 = 1 + 10 := by rw [w39]; exact h37
  refine x_putI' 83 34 1 6 dX1_begin_83 lk_274 (by decide) (by decide) rfl (Or.inl rfl) (Or.inl rfl) h37 w39 ?_
  refine x_aload_n 86 0 dX1_begin_86 rfl rfl ?_
  refine x_aload_n 87 0 dX1_begin_87 rfl rfl ?_
  refine x_getf 88 50 1 3 (.int (x_i M38 v0 3)) dX1_begin_88 lk_271 (by decide) (by decide) rfl (fun _ => rfl) h40 ?_
  obtain ⟨M41, w42, H⟩ := x_lt_of H
  have h43 : x_tag M41 v0 = 1 + 10 := by rw [w42]; exact h40
  refine x_putI' 91 77 1 7 dX1_begin_91 lk_275 (by decide) (by decide) rfl (Or.inl rfl) (Or.inl rfl) h40 w42 ?_
  refine x_aload_n 94 0 dX1_begin_94 rfl rfl ?_
  refine x_iconst 95 (-1 : Int32) dX1_begin_95 (by decide) ?_
  obtain ⟨M44, w45, H⟩ := x_lt_of H
  have h46 : x_tag M44 v0 = 1 + 10 := by rw [w45]; exact h43
  refine x_putI' 96 80 1 8 dX1_begin_96 lk_276 (by decide) (by decide) rfl (Or.inl rfl) (Or.inl rfl) h43 w45 ?_
  refine x_aload_n 99 1 dX1_begin_99 rfl rfl ?_
  refine x_iload_n 100 2 dX1_begin_100 rfl rfl ?_
  obtain ⟨h47, H⟩ := x_ckp H
  obtain ⟨r49, M48, e50, H⟩ := x_bd_of H
  refine x_callV 101 83 4 [(.int v2)] [] dX1_begin_101 (ct_X4_isThrough l e50) lk_794 lk_695 lk_696 (by decide) h47 lk_86 lk_697 ⟨cn_X4_isThrough, (by decide), by decide⟩ rfl (Nat.le_of_ble_eq_true rfl) (Nat.le_of_ble_eq_true rfl) (Nat.le_of_ble_eq_true rfl) (x_ri ?_)
  refine x_if_eq 104 114 dX1_begin_104 (by decide) (fun c51 => ?_) (fun c51 => ?_)
  · replace H := x_ifp c51 H
    refine x_aload_n 114 0 dX1_begin_114 rfl rfl ?_
    obtain ⟨h52, H⟩ := x_ckp H
    refine x_getf 115 9 1 0 (.ref (x_r M48 v0 0)) dX1_begin_115 lk_268 (by decide) (by decide) rfl (fun _ => rfl) h52 ?_
    refine x_aload 118 4 dX1_begin_118 rfl ?_
    obtain ⟨h53, H⟩ := x_ckp H
    refine x_getf 120 88 2 4 (.int (x_i M48 v4 4)) dX1_begin_120 lk_140 (by decide) (by decide) rfl (fun _ => rfl) h53 ?_
    refine x_aload_n 123 0 dX1_begin_123 rfl rfl ?_
    refine x_getf 124 64 1 5 (.int (x_i M48 v0 5)) dX1_begin_124 lk_273 (by decide) (by decide) rfl (fun _ => rfl) h52 ?_
    obtain ⟨r55, M54, e56, H⟩ := x_bd_of H
    refine x_callSN 127 91 [(.int (x_i M48 v4 4)), (.int (x_i M48 v0 5))] [(.ref (x_r M48 v0 0))] dX1_begin_127 (ct_X8_leftOver l e56) (List.mem_of_getElem? (i := 11) rfl) lk_512 lk_85 lk_513 ⟨cn_X8_leftOver, (by decide), by decide⟩ rfl (Nat.le_of_ble_eq_true rfl) (Nat.le_of_ble_eq_true rfl) (Nat.le_of_ble_eq_true rfl) (x_ri ?_)
    refine x_sipush 130 (200 : Int32) dX1_begin_130 (by decide) ?_
    refine x_imul 133 dX1_begin_133 ?_
    refine x_aload 134 4 dX1_begin_134 rfl ?_
    obtain ⟨h57, H⟩ := x_ckp H
    refine x_getf 136 94 2 2 (.int (x_i M54 v4 2)) dX1_begin_136 lk_133 (by decide) (by decide) rfl (fun _ => rfl) h57 ?_
    refine x_iadd 139 dX1_begin_139 ?_
    refine x_ldc 140 (1000000 : Int32) dX1_begin_140 lk_795 ?_
    obtain ⟨h58, H⟩ := x_ckp H
    obtain ⟨M59, w60, H⟩ := x_lt_of H
    have h61 : x_tag M59 v4 = 2 + 10 := by rw [w60]; exact h57
    have h62 : x_at M59 (x_r M48 v0 0) 1 ((r55 * (200 : Int32)) + (x_i M54 v4 2)) = true := by rw [w60]; exact h58
    have h63 : x_tag M59 (x_r M48 v0 0) = 1 := by rw [w60]; exact (x_at_1 h58)
    refine x_iast' 142 dX1_begin_142 h58 w60 ?_
    refine x_aload_n 143 0 dX1_begin_143 rfl rfl ?_
    refine x_aload 144 4 dX1_begin_144 rfl ?_
    refine x_getf 146 94 2 2 (.int (x_i M59 v4 2)) dX1_begin_146 lk_133 (by decide) (by decide) rfl (fun _ => rfl) h61 ?_
    obtain ⟨h64, H⟩ := x_ckp H
    obtain ⟨M65, w66, H⟩ := x_lt_of H
    have h67 : x_tag M65 v4 = 2 + 10 := by rw [w66]; exact h61
    have h68 : x_at M65 (x_r M48 v0 0) 1 ((r55 * (200 : Int32)) + (x_i M54 v4 2)) = true := by rw [w66]; exact h62
    have h69 : x_tag M65 (x_r M48 v0 0) = 1 := by rw [w66]; exact h63
    have h70 : x_tag M65 v0 = 1 + 10 := by rw [w66]; exact h64
    refine x_putI' 149 77 1 7 dX1_begin_149 lk_275 (by decide) (by decide) rfl (Or.inl rfl) (Or.inl rfl) h64 w66 ?_
    refine x_aload_n 152 0 dX1_begin_152 rfl rfl ?_
    refine x_aload 153 4 dX1_begin_153 rfl ?_
    refine x_getf 155 94 2 2 (.int (x_i M65 v4 2)) dX1_begin_155 lk_133 (by decide) (by decide) rfl (fun _ => rfl) h67 ?_
    obtain ⟨M71, w72, H⟩ := x_lt_of H
    have h73 : x_tag M71 v4 = 2 + 10 := by rw [w72]; exact h67
    have h74 : x_at M71 (x_r M48 v0 0) 1 ((r55 * (200 : Int32)) + (x_i M54 v4 2)) = true := by rw [w72]; exact h68
    have h75 : x_tag M71 (x_r M48 v0 0) = 1 := by rw [w72]; exact h69
    have h76 : x_tag M71 v0 = 1 + 10 := by rw [w72]; exact h70
    refine x_putI' 158 80 1 8 dX1_begin_158 lk_276 (by decide) (by decide) rfl (Or.inl rfl) (Or.inl rfl) h70 w72 ?_
    cases H
    exact x_vret 161 dX1_begin_161 rfl (Nat.le_of_ble_eq_true rfl) (Nat.le_of_ble_eq_true rfl) ⟨rfl, rfl⟩
  · replace H := x_ifn c51 H
    refine x_aload_n 107 0 dX1_begin_107 rfl rfl ?_
    refine x_ldc 108 (1000000 : Int32) dX1_begin_108 lk_795 ?_
    obtain ⟨h77, H⟩ := x_ckp H
    obtain ⟨M78, w79, H⟩ := x_lt_of H
    have h80 : x_tag M78 v0 = 1 + 10 := by rw [w79]; exact h77
    refine x_putI' 110 34 1 6 dX1_begin_110 lk_274 (by decide) (by decide) rfl (Or.inl rfl) (Or.inl rfl) h77 w79 ?_
    cases H
    exact x_vret 113 dX1_begin_113 rfl (Nat.le_of_ble_eq_true rfl) (Nat.le_of_ble_eq_true rfl) ⟨rfl, rfl⟩

def f_X1_begin (v0 : Nat) (v1 : Nat) (v2 : Int32) (v3 : Int32) (M : XM) : Option XM :=
  if x_tag M v1 = 4 + 10 then (if x_at M (x_r M v1 0) 3 v2 = true then (if x_tag M v0 = 1 + 10 then (x_lt (x_wi M v0 3 (if (200 : Int32) < (x_i M v1 2) then (200 : Int32) else (x_i M v1 2))) (fun M4 => x_lt (x_wi M4 v0 4 (x_i M4 v1 4)) (fun M10 => if x_tag M10 (x_r M (x_r M v1 0) v2.toNatClampNeg) = 2 + 10 then (x_bd (f_X2_hearsBySoMany (x_r M (x_r M v1 0) v2.toNatClampNeg) M10) (fun r18 M17 => if r18 = 0 then (f_X1_begin_55 v0 v1 v2 v3 (x_r M (x_r M v1 0) v2.toNatClampNeg) (1 : Int32) v0 M17) else (if x_tag M17 (x_r M (x_r M v1 0) v2.toNatClampNeg) = 2 + 10 then (f_X1_begin_55 v0 v1 v2 v3 (x_r M (x_r M v1 0) v2.toNatClampNeg) ((if (9 : Int32) < (x_i M17 (x_r M (x_r M v1 0) v2.toNatClampNeg) 1) then (9 : Int32) else (x_i M17 (x_r M (x_r M v1 0) v2.toNatClampNeg) 1)) + (1 : Int32)) v0 M17) else none))) else none))) else none) else none) else none
set_option maxRecDepth 20000 in
set_option maxHeartbeats 4000000 in
theorem t_X1_begin (l : Launch) {v0 : Nat} {v1 : Nat} {v2 : Int32} {v3 : Int32} {M : XM} {q : XM} (H : f_X1_begin v0 v1 v2 v3 M = some q) : AW l m_X1_begin 4 0 0 (x_Rv q) 0 0 0 [some (.ref v0), some (.ref v1), some (.int v2), some (.int v3), none] [] M := by
  unfold f_X1_begin at H
  refine x_aload_n 0 1 dX1_begin_0 rfl rfl ?_
  obtain ⟨h1, H⟩ := x_ckp H
  refine x_getf 1 37 4 0 (.ref (x_r M v1 0)) dX1_begin_1 lk_157 (by decide) (by decide) rfl (fun _ => rfl) h1 ?_
  refine x_iload_n 4 2 dX1_begin_4 rfl rfl ?_
  obtain ⟨h2, H⟩ := x_ckp H
  refine x_aald3 5 dX1_begin_5 h2 ?_
  refine x_astore 6 4 [some (.ref v0), some (.ref v1), some (.int v2), some (.int v3), some (.ref (x_r M (x_r M v1 0) v2.toNatClampNeg))] dX1_begin_6 rfl (Nat.le_of_ble_eq_true rfl) rfl ?_
  refine x_aload_n 8 0 dX1_begin_8 rfl rfl ?_
  refine x_aload_n 9 1 dX1_begin_9 rfl rfl ?_
  refine x_getf 10 41 4 2 (.int (x_i M v1 2)) dX1_begin_10 lk_165 (by decide) (by decide) rfl (fun _ => rfl) h1 ?_
  refine x_sipush 13 (200 : Int32) dX1_begin_13 (by decide) ?_
  refine x_min 16 44 dX1_begin_16 lk_780 lk_558 lk_97 lk_559 rfl (Nat.le_of_ble_eq_true rfl) (by decide) (Nat.le_of_ble_eq_true rfl) (Nat.le_of_ble_eq_true rfl) ?_
  obtain ⟨h3, H⟩ := x_ckp H
  obtain ⟨M4, w5, H⟩ := x_lt_of H
  have h6 : x_tag M4 v1 = 4 + 10 := by rw [w5]; exact h1
  have h7 : x_at M4 (x_r M v1 0) 3 v2 = true := by rw [w5]; exact h2
  have h8 : x_tag M4 (x_r M v1 0) = 3 := by rw [w5]; exact (x_at_1 h2)
  have h9 : x_tag M4 v0 = 1 + 10 := by rw [w5]; exact h3
  refine x_putI' 19 50 1 3 dX1_begin_19 lk_271 (by decide) (by decide) rfl (Or.inl rfl) (Or.inl rfl) h3 w5 ?_
  refine x_aload_n 22 0 dX1_begin_22 rfl rfl ?_
  refine x_aload_n 23 1 dX1_begin_23 rfl rfl ?_
  refine x_getf 24 51 4 4 (.int (x_i M4 v1 4)) dX1_begin_24 lk_173 (by decide) (by decide) rfl (fun _ => rfl) h6 ?_
  obtain ⟨M10, w11, H⟩ := x_lt_of H
  have h12 : x_tag M10 v1 = 4 + 10 := by rw [w11]; exact h6
  have h13 : x_at M10 (x_r M v1 0) 3 v2 = true := by rw [w11]; exact h7
  have h14 : x_tag M10 (x_r M v1 0) = 3 := by rw [w11]; exact h8
  have h15 : x_tag M10 v0 = 1 + 10 := by rw [w11]; exact h9
  refine x_putI' 27 54 1 4 dX1_begin_27 lk_272 (by decide) (by decide) rfl (Or.inl rfl) (Or.inl rfl) h9 w11 ?_
  refine x_aload_n 30 0 dX1_begin_30 rfl rfl ?_
  refine x_aload 31 4 dX1_begin_31 rfl ?_
  obtain ⟨h16, H⟩ := x_ckp H
  obtain ⟨r18, M17, e19, H⟩ := x_bd_of H
  refine x_callV 33 55 2 [] [(.ref v0)] dX1_begin_33 (ct_X2_hearsBySoMany l e19) lk_781 lk_782 lk_783 (by decide) h16 lk_87 lk_784 ⟨cn_X2_hearsBySoMany, (by decide), by decide⟩ rfl (Nat.le_of_ble_eq_true rfl) (Nat.le_of_ble_eq_true rfl) (Nat.le_of_ble_eq_true rfl) (x_ri ?_)
  refine x_if_eq 36 54 dX1_begin_36 (by decide) (fun c20 => ?_) (fun c20 => ?_)
  · replace H := x_ifp c20 H
    refine x_iconst 54 (1 : Int32) dX1_begin_54 (by decide) ?_
    exact t_X1_begin_55 l H
  · replace H := x_ifn c20 H
    refine x_aload 39 4 dX1_begin_39 rfl ?_
    obtain ⟨h81, H⟩ := x_ckp H
    refine x_getf 41 61 2 1 (.int (x_i M17 (x_r M (x_r M v1 0) v2.toNatClampNeg) 1)) dX1_begin_41 lk_128 (by decide) (by decide) rfl (fun _ => rfl) h81 ?_
    refine x_bipush 44 (9 : Int32) dX1_begin_44 (by decide) ?_
    refine x_min 46 44 dX1_begin_46 lk_780 lk_558 lk_97 lk_559 rfl (Nat.le_of_ble_eq_true rfl) (by decide) (Nat.le_of_ble_eq_true rfl) (Nat.le_of_ble_eq_true rfl) ?_
    refine x_iconst 49 (1 : Int32) dX1_begin_49 (by decide) ?_
    refine x_iadd 50 dX1_begin_50 ?_
    refine x_goto 51 55 dX1_begin_51 (by decide) ?_
    exact t_X1_begin_55 l H

theorem ct_X1_begin (l : Launch) {v0 : Nat} {v1 : Nat} {v2 : Int32} {v3 : Int32} {M : XM} {q : XM} (H : f_X1_begin v0 v1 v2 v3 M = some q) : Ct l m_X1_begin 4 0 0 [(.ref v0), (.ref v1), (.int v2), (.int v3)] M (x_Rv q) := x_met l m_X1_begin 4 0 0 [(.ref v0), (.ref v1), (.int v2), (.int v3)] M (x_Rv q) _ rfl rfl (Nat.le_of_ble_eq_true rfl) (t_X1_begin l H)
theorem lk_779 : Cond.code yX1_begin cX1_begin 5 none ∈ x_TB := x_tb (k := 779) (by decide +kernel) rfl
theorem lk_776 : Cond.methodLink RX1 27 yX1_begin ∈ x_TB := x_tb (k := 776) (by decide +kernel) rfl
theorem lk_18 : Cond.selects RX1 yX1_begin yX1_begin ∈ x_TB := x_tb (k := 18) (by decide +kernel) rfl
theorem lk_778 : Cond.instanceMethod yX1_begin ∈ x_TB := x_tb (k := 778) (by decide +kernel) rfl
abbrev m_X1_passRest : XU := (yX1_passRest, cX1_passRest, 9, none)
theorem cn_X1_passRest : m_X1_passRest.1.cls ≠ "java/lang/invoke/MethodHandle" ∧ m_X1_passRest.1.cls ≠ "java/lang/invoke/VarHandle" ∧ (parseMethodDescriptor m_X1_passRest.1.desc).map (fun q => q.parameters.length) = some 4 := by decide +kernel
def f_X1_passRest_204 (κ3 : Nat → Int32 → Int32 → Int32 → Int32 → XM → Option XM) (v0 : Nat) (v1 : Int32) (v2 : Int32) (v4 : Int32) (v5 : Int32) (M : XM) : Option XM :=
  κ3 v0 v1 v2 v4 (v5 + (1 : Int32)) M
set_option maxRecDepth 20000 in
set_option maxHeartbeats 4000000 in
theorem t_X1_passRest_204 (l : Launch) {κ3 : Nat → Int32 → Int32 → Int32 → Int32 → XM → Option XM} {v0 : Nat} {v1 : Int32} {v2 : Int32} {v4 : Int32} {v5 : Int32} {M : XM} {q : XM} (hκ3 : ∀ (v0 : Nat) (v1 : Int32) (v2 : Int32) (v4 : Int32) (v5 : Int32) (M : XM), κ3 v0 v1 v2 v4 v5 M = some q → AW l m_X1_passRest 1 0 0 (x_Rv q) 0 0 3 [some (.ref v0), some (.int v1), some (.int v2), none, some (.int v4), some (.int v5), none, none, none] [] M) (H : f_X1_passRest_204 κ3 v0 v1 v2 v4 v5 M = some q) : AW l m_X1_passRest 1 0 0 (x_Rv q) 0 0 204 [some (.ref v0), some (.int v1), some (.int v2), none, some (.int v4), some (.int v5), none, none, none] [] M := by
  unfold f_X1_passRest_204 at H
  refine x_iinc 204 5 (v5 + (1 : Int32)) [some (.ref v0), some (.int v1), some (.int v2), none, some (.int v4), some (.int (v5 + (1 : Int32))), none, none, none] dX1_passRest_204 rfl (congrArg (fun z : Int32 => v5 + z) (show Int32.ofInt (1) = (1 : Int32) by decide)) rfl (Nat.le_of_ble_eq_true rfl) rfl ?_
  refine x_goto 207 3 dX1_passRest_207 (by decide) ?_
  exact hκ3 _ _ _ _ _ _ H

def f_X1_passRest_185 (κ3 : Nat → Int32 → Int32 → Int32 → Int32 → XM → Option XM) (v0 : Nat) (v1 : Int32) (v2 : Int32) (v4 : Int32) (v5 : Int32) (M : XM) : Option XM :=
  if x_tag M v0 = 1 + 10 then (if (v5 + (1 : Int32)) ≤ (x_i M v0 8) then (f_X1_passRest_204 κ3 v0 v1 v2 v4 v5 M) else (x_lt (x_wi M v0 8 (v5 + (1 : Int32))) (fun M23 => f_X1_passRest_204 κ3 v0 v1 v2 v4 v5 M23))) else none
set_option maxRecDepth 20000 in
set_option maxHeartbeats 4000000 in
theorem t_X1_passRest_185 (l : Launch) {κ3 : Nat → Int32 → Int32 → Int32 → Int32 → XM → Option XM} {v0 : Nat} {v1 : Int32} {v2 : Int32} {v4 : Int32} {v5 : Int32} {M : XM} {q : XM} (hκ3 : ∀ (v0 : Nat) (v1 : Int32) (v2 : Int32) (v4 : Int32) (v5 : Int32) (M : XM), κ3 v0 v1 v2 v4 v5 M = some q → AW l m_X1_passRest 1 0 0 (x_Rv q) 0 0 3 [some (.ref v0), some (.int v1), some (.int v2), none, some (.int v4), some (.int v5), none, none, none] [] M) (H : f_X1_passRest_185 κ3 v0 v1 v2 v4 v5 M = some q) : AW l m_X1_passRest 1 0 0 (x_Rv q) 0 0 185 [some (.ref v0), some (.int v1), some (.int v2), none, some (.int v4), some (.int v5), none, none, none] [] M := by
  unfold f_X1_passRest_185 at H
  refine x_iload 185 5 dX1_passRest_185 rfl ?_
  refine x_iconst 187 (1 : Int32) dX1_passRest_187 (by decide) ?_
  refine x_iadd 188 dX1_passRest_188 ?_
  refine x_aload_n 189 0 dX1_passRest_189 rfl rfl ?_
  obtain ⟨h21, H⟩ := x_ckp H
  refine x_getf 190 80 1 8 (.int (x_i M v0 8)) dX1_passRest_190 lk_276 (by decide) (by decide) rfl (fun _ => rfl) h21 ?_
  refine x_icmp_le 193 204 dX1_passRest_193 (by decide) (fun c22 => ?_) (fun c22 => ?_)
  · replace H := x_ifp c22 H
    exact t_X1_passRest_204 l hκ3 H
  · replace H := x_ifn c22 H
    refine x_aload_n 196 0 dX1_passRest_196 rfl rfl ?_
    refine x_iload 197 5 dX1_passRest_197 rfl ?_
    refine x_iconst 199 (1 : Int32) dX1_passRest_199 (by decide) ?_
    refine x_iadd 200 dX1_passRest_200 ?_
    obtain ⟨M23, w24, H⟩ := x_lt_of H
    have h25 : x_tag M23 v0 = 1 + 10 := by rw [w24]; exact h21
    refine x_putI' 201 80 1 8 dX1_passRest_201 lk_276 (by decide) (by decide) rfl (Or.inl rfl) (Or.inl rfl) h21 w24 ?_
    exact t_X1_passRest_204 l hκ3 H

def f_X1_passRest_112 (κ3 : Nat → Int32 → Int32 → Int32 → Int32 → XM → Option XM) (v0 : Nat) (v1 : Int32) (v2 : Int32) (v4 : Int32) (v5 : Int32) (v6 : Int32) (v7 : Int32) (M : XM) : Option XM :=
  if x_tag M v0 = 1 + 10 then (if (v5 + (1 : Int32)) < (x_i M v0 3) then (if v6 ≤ v7 then (f_X1_passRest_204 κ3 v0 v1 v2 v4 v5 M) else (if x_at M (x_r M v0 1) 1 ((v1 + v5) + (1 : Int32)) = true then (x_lt (x_wi M (x_r M v0 1) ((v1 + v5) + (1 : Int32)).toNatClampNeg ((x_i M (x_r M v0 1) ((v1 + v5) + (1 : Int32)).toNatClampNeg) + (v6 - v7))) (fun M15 => if (x_i M15 v0 7) ≤ (v5 + (1 : Int32)) then (f_X1_passRest_185 κ3 v0 v1 v2 v4 v5 M15) else (x_lt (x_wi M15 v0 7 (v5 + (1 : Int32))) (fun M26 => f_X1_passRest_185 κ3 v0 v1 v2 v4 v5 M26)))) else none)) else (x_lt (x_wi M v0 6 ((x_i M v0 6) + (v6 - v7))) (fun M31 => f_X1_passRest_204 κ3 v0 v1 v2 v4 v5 M31))) else none
set_option maxRecDepth 20000 in
set_option maxHeartbeats 4000000 in
theorem t_X1_passRest_112 (l : Launch) {κ3 : Nat → Int32 → Int32 → Int32 → Int32 → XM → Option XM} {v0 : Nat} {v1 : Int32} {v2 : Int32} {v4 : Int32} {v5 : Int32} {v6 : Int32} {v7 : Int32} {M : XM} {q : XM} (hκ3 : ∀ (v0 : Nat) (v1 : Int32) (v2 : Int32) (v4 : Int32) (v5 : Int32) (M : XM), κ3 v0 v1 v2 v4 v5 M = some q → AW l m_X1_passRest 1 0 0 (x_Rv q) 0 0 3 [some (.ref v0), some (.int v1), some (.int v2), none, some (.int v4), some (.int v5), none, none, none] [] M) (H : f_X1_passRest_112 κ3 v0 v1 v2 v4 v5 v6 v7 M = some q) : AW l m_X1_passRest 1 0 0 (x_Rv q) 0 0 112 [some (.ref v0), some (.int v1), some (.int v2), none, some (.int v4), some (.int v5), some (.int v6), some (.int v7), none] [] M := by
  unfold f_X1_passRest_112 at H
  refine x_iload 112 5 dX1_passRest_112 rfl ?_
  refine x_iconst 114 (1 : Int32) dX1_passRest_114 (by decide) ?_
  refine x_iadd 115 dX1_passRest_115 ?_
  refine x_aload_n 116 0 dX1_passRest_116 rfl rfl ?_
  obtain ⟨h11, H⟩ := x_ckp H
  refine x_getf 117 50 1 3 (.int (x_i M v0 3)) dX1_passRest_117 lk_271 (by decide) (by decide) rfl (fun _ => rfl) h11 ?_
  refine x_icmp_lt 120 140 dX1_passRest_120 (by decide) (fun c12 => ?_) (fun c12 => ?_)
  · replace H := x_ifp c12 H
    refine x_iload 140 7 dX1_passRest_140 rfl ?_
    refine x_iload 142 6 dX1_passRest_142 rfl ?_
    refine x_icmp_ge 144 204 dX1_passRest_144 (by decide) (fun c13 => ?_) (fun c13 => ?_)
    · replace H := x_ifp c13 H
      exact x_wk (le_s (le_s (le_s (le_s (le_s (le_s (le_n (le_n (le_s le_0))))))))) (t_X1_passRest_204 l hκ3 H)
    · replace H := x_ifn c13 H
      refine x_aload_n 147 0 dX1_passRest_147 rfl rfl ?_
      refine x_getf 148 15 1 1 (.ref (x_r M v0 1)) dX1_passRest_148 lk_269 (by decide) (by decide) rfl (fun _ => rfl) h11 ?_
      refine x_iload_n 151 1 dX1_passRest_151 rfl rfl ?_
      refine x_iload 152 5 dX1_passRest_152 rfl ?_
      refine x_iadd 154 dX1_passRest_154 ?_
      refine x_iconst 155 (1 : Int32) dX1_passRest_155 (by decide) ?_
      refine x_iadd 156 dX1_passRest_156 ?_
      refine x_dup2 157 dX1_passRest_157 rfl rfl ?_
      obtain ⟨h14, H⟩ := x_ckp H
      refine x_iald 158 dX1_passRest_158 h14 ?_
      refine x_iload 159 6 dX1_passRest_159 rfl ?_
      refine x_iload 161 7 dX1_passRest_161 rfl ?_
      refine x_isub 163 dX1_passRest_163 ?_
      refine x_iadd 164 dX1_passRest_164 ?_
      obtain ⟨M15, w16, H⟩ := x_lt_of H
      have h17 : x_tag M15 v0 = 1 + 10 := by rw [w16]; exact h11
      have h18 : x_at M15 (x_r M v0 1) 1 ((v1 + v5) + (1 : Int32)) = true := by rw [w16]; exact h14
      have h19 : x_tag M15 (x_r M v0 1) = 1 := by rw [w16]; exact (x_at_1 h14)
      refine x_iast' 165 dX1_passRest_165 h14 w16 ?_
      refine x_iload 166 5 dX1_passRest_166 rfl ?_
      refine x_iconst 168 (1 : Int32) dX1_passRest_168 (by decide) ?_
      refine x_iadd 169 dX1_passRest_169 ?_
      refine x_aload_n 170 0 dX1_passRest_170 rfl rfl ?_
      refine x_getf 171 77 1 7 (.int (x_i M15 v0 7)) dX1_passRest_171 lk_275 (by decide) (by decide) rfl (fun _ => rfl) h17 ?_
      refine x_icmp_ge 174 185 dX1_passRest_174 (by decide) (fun c20 => ?_) (fun c20 => ?_)
      · replace H := x_ifp c20 H
        exact x_wk (le_s (le_s (le_s (le_s (le_s (le_s (le_n (le_n (le_s le_0))))))))) (t_X1_passRest_185 l hκ3 H)
      · replace H := x_ifn c20 H
        refine x_aload_n 177 0 dX1_passRest_177 rfl rfl ?_
        refine x_iload 178 5 dX1_passRest_178 rfl ?_
        refine x_iconst 180 (1 : Int32) dX1_passRest_180 (by decide) ?_
        refine x_iadd 181 dX1_passRest_181 ?_
        obtain ⟨M26, w27, H⟩ := x_lt_of H
        have h28 : x_tag M26 v0 = 1 + 10 := by rw [w27]; exact h17
        have h29 : x_at M26 (x_r M v0 1) 1 ((v1 + v5) + (1 : Int32)) = true := by rw [w27]; exact h18
        have h30 : x_tag M26 (x_r M v0 1) = 1 := by rw [w27]; exact h19
        refine x_putI' 182 77 1 7 dX1_passRest_182 lk_275 (by decide) (by decide) rfl (Or.inl rfl) (Or.inl rfl) h17 w27 ?_
        exact x_wk (le_s (le_s (le_s (le_s (le_s (le_s (le_n (le_n (le_s le_0))))))))) (t_X1_passRest_185 l hκ3 H)
  · replace H := x_ifn c12 H
    refine x_aload_n 123 0 dX1_passRest_123 rfl rfl ?_
    refine x_dup 124 dX1_passRest_124 rfl ?_
    refine x_getf 125 34 1 6 (.int (x_i M v0 6)) dX1_passRest_125 lk_274 (by decide) (by decide) rfl (fun _ => rfl) h11 ?_
    refine x_iload 128 6 dX1_passRest_128 rfl ?_
    refine x_iload 130 7 dX1_passRest_130 rfl ?_
    refine x_isub 132 dX1_passRest_132 ?_
    refine x_iadd 133 dX1_passRest_133 ?_
    obtain ⟨M31, w32, H⟩ := x_lt_of H
    have h33 : x_tag M31 v0 = 1 + 10 := by rw [w32]; exact h11
    refine x_putI' 134 34 1 6 dX1_passRest_134 lk_274 (by decide) (by decide) rfl (Or.inl rfl) (Or.inl rfl) h11 w32 ?_
    refine x_goto 137 204 dX1_passRest_137 (by decide) ?_
    exact x_wk (le_s (le_s (le_s (le_s (le_s (le_s (le_n (le_n (le_s le_0))))))))) (t_X1_passRest_204 l hκ3 H)

def f_X1_passRest_97 (κ3 : Nat → Int32 → Int32 → Int32 → Int32 → XM → Option XM) (v0 : Nat) (v1 : Int32) (v2 : Int32) (v4 : Int32) (v5 : Int32) (v6 : Int32) (v7 : Int32) (v8 : Int32) (M : XM) : Option XM :=
  if x_tag M v0 = 1 + 10 then (if v8 ≤ (x_i M v0 8) then (f_X1_passRest_112 κ3 v0 v1 v2 v4 v5 v6 v7 M) else (x_lt (x_wi M v0 8 v8) (fun M48 => f_X1_passRest_112 κ3 v0 v1 v2 v4 v5 v6 v7 M48))) else none
set_option maxRecDepth 20000 in
set_option maxHeartbeats 4000000 in
theorem t_X1_passRest_97 (l : Launch) {κ3 : Nat → Int32 → Int32 → Int32 → Int32 → XM → Option XM} {v0 : Nat} {v1 : Int32} {v2 : Int32} {v4 : Int32} {v5 : Int32} {v6 : Int32} {v7 : Int32} {v8 : Int32} {M : XM} {q : XM} (hκ3 : ∀ (v0 : Nat) (v1 : Int32) (v2 : Int32) (v4 : Int32) (v5 : Int32) (M : XM), κ3 v0 v1 v2 v4 v5 M = some q → AW l m_X1_passRest 1 0 0 (x_Rv q) 0 0 3 [some (.ref v0), some (.int v1), some (.int v2), none, some (.int v4), some (.int v5), none, none, none] [] M) (H : f_X1_passRest_97 κ3 v0 v1 v2 v4 v5 v6 v7 v8 M = some q) : AW l m_X1_passRest 1 0 0 (x_Rv q) 0 0 97 [some (.ref v0), some (.int v1), some (.int v2), none, some (.int v4), some (.int v5), some (.int v6), some (.int v7), some (.int v8)] [] M := by
  unfold f_X1_passRest_97 at H
  refine x_iload 97 8 dX1_passRest_97 rfl ?_
  refine x_aload_n 99 0 dX1_passRest_99 rfl rfl ?_
  obtain ⟨h46, H⟩ := x_ckp H
  refine x_getf 100 80 1 8 (.int (x_i M v0 8)) dX1_passRest_100 lk_276 (by decide) (by decide) rfl (fun _ => rfl) h46 ?_
  refine x_icmp_le 103 112 dX1_passRest_103 (by decide) (fun c47 => ?_) (fun c47 => ?_)
  · replace H := x_ifp c47 H
    exact x_wk (le_s (le_s (le_s (le_s (le_s (le_s (le_s (le_s (le_n le_0))))))))) (t_X1_passRest_112 l hκ3 H)
  · replace H := x_ifn c47 H
    refine x_aload_n 106 0 dX1_passRest_106 rfl rfl ?_
    refine x_iload 107 8 dX1_passRest_107 rfl ?_
    obtain ⟨M48, w49, H⟩ := x_lt_of H
    have h50 : x_tag M48 v0 = 1 + 10 := by rw [w49]; exact h46
    refine x_putI' 109 80 1 8 dX1_passRest_109 lk_276 (by decide) (by decide) rfl (Or.inl rfl) (Or.inl rfl) h46 w49 ?_
    exact x_wk (le_s (le_s (le_s (le_s (le_s (le_s (le_s (le_s (le_n le_0))))))))) (t_X1_passRest_112 l hκ3 H)

def bd_X1_passRest_3 (κ3 : Nat → Int32 → Int32 → Int32 → Int32 → XM → Option XM) (v0 : Nat) (v1 : Int32) (v2 : Int32) (v4 : Int32) (v5 : Int32) (M : XM) : Option XM :=
  if v4 < v5 then (some M) else (if x_tag M v0 = 1 + 10 then (if x_at M (x_r M v0 0) 1 (v1 + v5) = true then (if (x_i M (x_r M v0 0) (v1 + v5).toNatClampNeg) = 0 then (f_X1_passRest_204 κ3 v0 v1 v2 v4 v5 M) else (x_lt (x_wi M (x_r M v0 0) (v1 + v5).toNatClampNeg (0 : Int32)) (fun M5 => if (((x_i M (x_r M v0 0) (v1 + v5).toNatClampNeg) * (x_i M5 v0 4)) / (1000 : Int32)) ≤ 0 then (f_X1_passRest_112 κ3 v0 v1 v2 v4 v5 (x_i M (x_r M v0 0) (v1 + v5).toNatClampNeg) (((x_i M (x_r M v0 0) (v1 + v5).toNatClampNeg) * (x_i M5 v0 4)) / (1000 : Int32)) M5) else (if x_at M5 (x_r M5 v0 2) 1 (v1 + v5) = true then (if x_at M5 (x_r M5 v0 1) 1 (v2 + (x_i M5 (x_r M5 v0 2) (v1 + v5).toNatClampNeg)) = true then (x_lt (x_wi M5 (x_r M5 v0 1) (v2 + (x_i M5 (x_r M5 v0 2) (v1 + v5).toNatClampNeg)).toNatClampNeg ((x_i M5 (x_r M5 v0 1) (v2 + (x_i M5 (x_r M5 v0 2) (v1 + v5).toNatClampNeg)).toNatClampNeg) + (((x_i M (x_r M v0 0) (v1 + v5).toNatClampNeg) * (x_i M5 v0 4)) / (1000 : Int32)))) (fun M36 => if (x_i M36 v0 7) ≤ (x_i M5 (x_r M5 v0 2) (v1 + v5).toNatClampNeg) then (f_X1_passRest_97 κ3 v0 v1 v2 v4 v5 (x_i M (x_r M v0 0) (v1 + v5).toNatClampNeg) (((x_i M (x_r M v0 0) (v1 + v5).toNatClampNeg) * (x_i M5 v0 4)) / (1000 : Int32)) (x_i M5 (x_r M5 v0 2) (v1 + v5).toNatClampNeg) M36) else (x_lt (x_wi M36 v0 7 (x_i M5 (x_r M5 v0 2) (v1 + v5).toNatClampNeg)) (fun M51 => f_X1_passRest_97 κ3 v0 v1 v2 v4 v5 (x_i M (x_r M v0 0) (v1 + v5).toNatClampNeg) (((x_i M (x_r M v0 0) (v1 + v5).toNatClampNeg) * (x_i M5 v0 4)) / (1000 : Int32)) (x_i M5 (x_r M5 v0 2) (v1 + v5).toNatClampNeg) M51)))) else none) else none)))) else none) else none)
set_option maxRecDepth 20000 in
set_option maxHeartbeats 4000000 in
theorem tb_X1_passRest_3 (l : Launch) {κ3 : Nat → Int32 → Int32 → Int32 → Int32 → XM → Option XM} {v0 : Nat} {v1 : Int32} {v2 : Int32} {v4 : Int32} {v5 : Int32} {M : XM} {q : XM} (hκ3 : ∀ (v0 : Nat) (v1 : Int32) (v2 : Int32) (v4 : Int32) (v5 : Int32) (M : XM), κ3 v0 v1 v2 v4 v5 M = some q → AW l m_X1_passRest 1 0 0 (x_Rv q) 0 0 3 [some (.ref v0), some (.int v1), some (.int v2), none, some (.int v4), some (.int v5), none, none, none] [] M) (H : bd_X1_passRest_3 κ3 v0 v1 v2 v4 v5 M = some q) : AW l m_X1_passRest 1 0 0 (x_Rv q) 0 0 3 [some (.ref v0), some (.int v1), some (.int v2), none, some (.int v4), some (.int v5), none, none, none] [] M := by
  unfold bd_X1_passRest_3 at H
  refine x_iload 3 5 dX1_passRest_3 rfl ?_
  refine x_iload 5 4 dX1_passRest_5 rfl ?_
  refine x_icmp_gt 7 210 dX1_passRest_7 (by decide) (fun c1 => ?_) (fun c1 => ?_)
  · replace H := x_ifp c1 H
    cases H
    exact x_vret 210 dX1_passRest_210 rfl (Nat.le_of_ble_eq_true rfl) (Nat.le_of_ble_eq_true rfl) ⟨rfl, rfl⟩
  · replace H := x_ifn c1 H
    refine x_aload_n 10 0 dX1_passRest_10 rfl rfl ?_
    obtain ⟨h2, H⟩ := x_ckp H
    refine x_getf 11 9 1 0 (.ref (x_r M v0 0)) dX1_passRest_11 lk_268 (by decide) (by decide) rfl (fun _ => rfl) h2 ?_
    refine x_iload_n 14 1 dX1_passRest_14 rfl rfl ?_
    refine x_iload 15 5 dX1_passRest_15 rfl ?_
    refine x_iadd 17 dX1_passRest_17 ?_
    obtain ⟨h3, H⟩ := x_ckp H
    refine x_iald 18 dX1_passRest_18 h3 ?_
    refine x_istore 19 6 [some (.ref v0), some (.int v1), some (.int v2), none, some (.int v4), some (.int v5), some (.int (x_i M (x_r M v0 0) (v1 + v5).toNatClampNeg)), none, none] dX1_passRest_19 rfl (Nat.le_of_ble_eq_true rfl) rfl ?_
    refine x_iload 21 6 dX1_passRest_21 rfl ?_
    refine x_if_ne 23 29 dX1_passRest_23 (by decide) (fun c4 => ?_) (fun c4 => ?_)
    · replace H := x_ifn c4 H
      refine x_aload_n 29 0 dX1_passRest_29 rfl rfl ?_
      refine x_getf 30 9 1 0 (.ref (x_r M v0 0)) dX1_passRest_30 lk_268 (by decide) (by decide) rfl (fun _ => rfl) h2 ?_
      refine x_iload_n 33 1 dX1_passRest_33 rfl rfl ?_
      refine x_iload 34 5 dX1_passRest_34 rfl ?_
      refine x_iadd 36 dX1_passRest_36 ?_
      refine x_iconst 37 (0 : Int32) dX1_passRest_37 (by decide) ?_
      obtain ⟨M5, w6, H⟩ := x_lt_of H
      have h7 : x_tag M5 v0 = 1 + 10 := by rw [w6]; exact h2
      have h8 : x_at M5 (x_r M v0 0) 1 (v1 + v5) = true := by rw [w6]; exact h3
      have h9 : x_tag M5 (x_r M v0 0) = 1 := by rw [w6]; exact (x_at_1 h3)
      refine x_iast' 38 dX1_passRest_38 h3 w6 ?_
      refine x_iload 39 6 dX1_passRest_39 rfl ?_
      refine x_aload_n 41 0 dX1_passRest_41 rfl rfl ?_
      refine x_getf 42 54 1 4 (.int (x_i M5 v0 4)) dX1_passRest_42 lk_272 (by decide) (by decide) rfl (fun _ => rfl) h7 ?_
      refine x_imul 45 dX1_passRest_45 ?_
      refine x_sipush 46 (1000 : Int32) dX1_passRest_46 (by decide) ?_
      refine x_idiv 49 dX1_passRest_49 (by decide) ?_
      refine x_istore 50 7 [some (.ref v0), some (.int v1), some (.int v2), none, some (.int v4), some (.int v5), some (.int (x_i M (x_r M v0 0) (v1 + v5).toNatClampNeg)), some (.int (((x_i M (x_r M v0 0) (v1 + v5).toNatClampNeg) * (x_i M5 v0 4)) / (1000 : Int32))), none] dX1_passRest_50 rfl (Nat.le_of_ble_eq_true rfl) rfl ?_
      refine x_iload 52 7 dX1_passRest_52 rfl ?_
      refine x_if_le 54 112 dX1_passRest_54 (by decide) (fun c10 => ?_) (fun c10 => ?_)
      · replace H := x_ifp c10 H
        exact t_X1_passRest_112 l hκ3 H
      · replace H := x_ifn c10 H
        refine x_aload_n 57 0 dX1_passRest_57 rfl rfl ?_
        refine x_getf 58 18 1 2 (.ref (x_r M5 v0 2)) dX1_passRest_58 lk_270 (by decide) (by decide) rfl (fun _ => rfl) h7 ?_
        refine x_iload_n 61 1 dX1_passRest_61 rfl rfl ?_
        refine x_iload 62 5 dX1_passRest_62 rfl ?_
        refine x_iadd 64 dX1_passRest_64 ?_
        obtain ⟨h34, H⟩ := x_ckp H
        refine x_iald 65 dX1_passRest_65 h34 ?_
        refine x_istore 66 8 [some (.ref v0), some (.int v1), some (.int v2), none, some (.int v4), some (.int v5), some (.int (x_i M (x_r M v0 0) (v1 + v5).toNatClampNeg)), some (.int (((x_i M (x_r M v0 0) (v1 + v5).toNatClampNeg) * (x_i M5 v0 4)) / (1000 : Int32))), some (.int (x_i M5 (x_r M5 v0 2) (v1 + v5).toNatClampNeg))] dX1_passRest_66 rfl (Nat.le_of_ble_eq_true rfl) rfl ?_
        refine x_aload_n 68 0 dX1_passRest_68 rfl rfl ?_
        refine x_getf 69 15 1 1 (.ref (x_r M5 v0 1)) dX1_passRest_69 lk_269 (by decide) (by decide) rfl (fun _ => rfl) h7 ?_
        refine x_iload_n 72 2 dX1_passRest_72 rfl rfl ?_
        refine x_iload 73 8 dX1_passRest_73 rfl ?_
        refine x_iadd 75 dX1_passRest_75 ?_
        refine x_dup2 76 dX1_passRest_76 rfl rfl ?_
        obtain ⟨h35, H⟩ := x_ckp H
        refine x_iald 77 dX1_passRest_77 h35 ?_
        refine x_iload 78 7 dX1_passRest_78 rfl ?_
        refine x_iadd 80 dX1_passRest_80 ?_
        obtain ⟨M36, w37, H⟩ := x_lt_of H
        have h38 : x_tag M36 v0 = 1 + 10 := by rw [w37]; exact h7
        have h39 : x_at M36 (x_r M v0 0) 1 (v1 + v5) = true := by rw [w37]; exact h8
        have h40 : x_tag M36 (x_r M v0 0) = 1 := by rw [w37]; exact h9
        have h41 : x_at M36 (x_r M5 v0 2) 1 (v1 + v5) = true := by rw [w37]; exact h34
        have h42 : x_tag M36 (x_r M5 v0 2) = 1 := by rw [w37]; exact (x_at_1 h34)
        have h43 : x_at M36 (x_r M5 v0 1) 1 (v2 + (x_i M5 (x_r M5 v0 2) (v1 + v5).toNatClampNeg)) = true := by rw [w37]; exact h35
        have h44 : x_tag M36 (x_r M5 v0 1) = 1 := by rw [w37]; exact (x_at_1 h35)
        refine x_iast' 81 dX1_passRest_81 h35 w37 ?_
        refine x_iload 82 8 dX1_passRest_82 rfl ?_
        refine x_aload_n 84 0 dX1_passRest_84 rfl rfl ?_
        refine x_getf 85 77 1 7 (.int (x_i M36 v0 7)) dX1_passRest_85 lk_275 (by decide) (by decide) rfl (fun _ => rfl) h38 ?_
        refine x_icmp_ge 88 97 dX1_passRest_88 (by decide) (fun c45 => ?_) (fun c45 => ?_)
        · replace H := x_ifp c45 H
          exact t_X1_passRest_97 l hκ3 H
        · replace H := x_ifn c45 H
          refine x_aload_n 91 0 dX1_passRest_91 rfl rfl ?_
          refine x_iload 92 8 dX1_passRest_92 rfl ?_
          obtain ⟨M51, w52, H⟩ := x_lt_of H
          have h53 : x_tag M51 v0 = 1 + 10 := by rw [w52]; exact h38
          have h54 : x_at M51 (x_r M v0 0) 1 (v1 + v5) = true := by rw [w52]; exact h39
          have h55 : x_tag M51 (x_r M v0 0) = 1 := by rw [w52]; exact h40
          have h56 : x_at M51 (x_r M5 v0 2) 1 (v1 + v5) = true := by rw [w52]; exact h41
          have h57 : x_tag M51 (x_r M5 v0 2) = 1 := by rw [w52]; exact h42
          have h58 : x_at M51 (x_r M5 v0 1) 1 (v2 + (x_i M5 (x_r M5 v0 2) (v1 + v5).toNatClampNeg)) = true := by rw [w52]; exact h43
          have h59 : x_tag M51 (x_r M5 v0 1) = 1 := by rw [w52]; exact h44
          refine x_putI' 94 77 1 7 dX1_passRest_94 lk_275 (by decide) (by decide) rfl (Or.inl rfl) (Or.inl rfl) h38 w52 ?_
          exact t_X1_passRest_97 l hκ3 H
    · replace H := x_ifp c4 H
      refine x_goto 26 204 dX1_passRest_26 (by decide) ?_
      exact x_wk (le_s (le_s (le_s (le_s (le_s (le_s (le_n (le_s (le_s le_0))))))))) (t_X1_passRest_204 l hκ3 H)

def lp_X1_passRest_3 (n : Nat) : Nat → Int32 → Int32 → Int32 → Int32 → XM → Option XM := x_rec (fun _ _ _ _ _ _ => none) (bd_X1_passRest_3) n
theorem t_X1_passRest_3 (l : Launch) {q : XM} : ∀ (n : Nat) (v0 : Nat) (v1 : Int32) (v2 : Int32) (v4 : Int32) (v5 : Int32) (M : XM), lp_X1_passRest_3 n v0 v1 v2 v4 v5 M = some q → AW l m_X1_passRest 1 0 0 (x_Rv q) 0 0 3 [some (.ref v0), some (.int v1), some (.int v2), none, some (.int v4), some (.int v5), none, none, none] [] M := by
  intro n
  induction n with
  | zero => intro v0 v1 v2 v4 v5 M H; cases H
  | succ n ih => intro v0 v1 v2 v4 v5 M H; exact tb_X1_passRest_3 l ih H
def f_X1_passRest (v0 : Nat) (v1 : Int32) (v2 : Int32) (v3 : Int32) (v4 : Int32) (M : XM) : Option XM :=
  lp_X1_passRest_3 x_fuel v0 v1 v2 v4 v3 M
set_option maxRecDepth 20000 in
set_option maxHeartbeats 4000000 in
theorem t_X1_passRest (l : Launch) {v0 : Nat} {v1 : Int32} {v2 : Int32} {v3 : Int32} {v4 : Int32} {M : XM} {q : XM} (H : f_X1_passRest v0 v1 v2 v3 v4 M = some q) : AW l m_X1_passRest 1 0 0 (x_Rv q) 0 0 0 [some (.ref v0), some (.int v1), some (.int v2), some (.int v3), some (.int v4), none, none, none, none] [] M := by
  unfold f_X1_passRest at H
  refine x_iload_n 0 3 dX1_passRest_0 rfl rfl ?_
  refine x_istore 1 5 [some (.ref v0), some (.int v1), some (.int v2), some (.int v3), some (.int v4), some (.int v3), none, none, none] dX1_passRest_1 rfl (Nat.le_of_ble_eq_true rfl) rfl ?_
  exact x_wk (le_s (le_s (le_s (le_n (le_s (le_s (le_s (le_s (le_s le_0))))))))) (t_X1_passRest_3 l _ _ _ _ _ _ _ H)

theorem ct_X1_passRest (l : Launch) {v0 : Nat} {v1 : Int32} {v2 : Int32} {v3 : Int32} {v4 : Int32} {M : XM} {q : XM} (H : f_X1_passRest v0 v1 v2 v3 v4 M = some q) : Ct l m_X1_passRest 1 0 0 [(.ref v0), (.int v1), (.int v2), (.int v3), (.int v4)] M (x_Rv q) := x_met l m_X1_passRest 1 0 0 [(.ref v0), (.int v1), (.int v2), (.int v3), (.int v4)] M (x_Rv q) _ rfl rfl (Nat.le_of_ble_eq_true rfl) (t_X1_passRest l H)
