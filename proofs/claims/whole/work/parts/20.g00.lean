theorem lk_319 : Cond.methodLink RX0 3 Lib.objectInit ∈ x_TB := x_tb (k := 319) (by decide +kernel) rfl
theorem lk_108 : Cond.instanceMethod Lib.objectInit ∈ x_TB := x_tb (k := 108) (by decide +kernel) rfl
theorem lk_109 : Cond.code Lib.objectInit ⟨#[0xb1]⟩ 1 none ∈ x_TB := x_tb (k := 109) (by decide +kernel) rfl
theorem lk_153 : Cond.arrayClass (newarray.typeOf .int) ∈ x_TB := x_tb (k := 153) (by decide +kernel) rfl
theorem lk_322 : Cond.fieldLink RX0 9 RX0 "bodies" "[I" ∈ x_TB := x_tb (k := 322) (by decide +kernel) rfl
abbrev m_X0_init : XU := (yX0_init, cX0_init, 1, none)
theorem cn_X0_init : m_X0_init.1.cls ≠ "java/lang/invoke/MethodHandle" ∧ m_X0_init.1.cls ≠ "java/lang/invoke/VarHandle" ∧ (parseMethodDescriptor m_X0_init.1.desc).map (fun q => q.parameters.length) = some 0 := by decide +kernel
def f_X0_init (v0 : Nat) (M : XM) : Option XM :=
  if x_tag M v0 = 0 + 10 then (x_al M 1 20 (fun a3 M2 => if x_tag M2 v0 = 0 + 10 then (x_lt (x_wr M2 v0 1 a3) (fun M8 => some M8)) else none)) else none
set_option maxRecDepth 20000 in
set_option maxHeartbeats 4000000 in
theorem t_X0_init (l : Launch) {v0 : Nat} {M : XM} {q : XM} (H : f_X0_init v0 M = some q) : AW l m_X0_init 1 1 20 (x_Rv q) 0 0 0 [some (.ref v0)] [] M := by
  unfold f_X0_init at H
  refine x_aload_n 0 0 dX0_init_0 rfl rfl ?_
  obtain ⟨h1, H⟩ := x_ckp H
  refine x_objInit 1 3 dX0_init_1 lk_319 lk_108 lk_109 h1 rfl (Nat.le_of_ble_eq_true rfl) (by decide) ?_
  refine x_aload_n 4 0 dX0_init_4 rfl rfl ?_
  refine x_bipush 5 (20 : Int32) dX0_init_5 (by decide) ?_
  obtain ⟨a3, M2, w4, w5, H⟩ := x_al_of H
  refine x_newI' 7 20 dX0_init_7 lk_153 (by decide) (by decide) (by decide) (Nat.le_of_ble_eq_true rfl) (Nat.le_of_ble_eq_true rfl) w4 w5 ?_
  have h6 : x_tag M2 a3 = 1 := x_al_tag w4 w5
  change AW _ _ _ _ _ _ 1 20 _ _ _ _
  obtain ⟨h7, H⟩ := x_ckp H
  obtain ⟨M8, w9, H⟩ := x_lt_of H
  have h10 : x_tag M8 a3 = 1 := by rw [w9]; exact h6
  have h11 : x_tag M8 v0 = 0 + 10 := by rw [w9]; exact h7
  refine x_putR' 9 9 0 1 dX0_init_9 lk_322 (by decide) (by decide) rfl (Or.inr ⟨_, rfl⟩) (Or.inr ⟨rfl, rfl⟩) h7 w9 ?_
  cases H
  exact x_vret 12 dX0_init_12 rfl (Nat.le_of_ble_eq_true rfl) (Nat.le_of_ble_eq_true rfl) ⟨rfl, rfl⟩

theorem ct_X0_init (l : Launch) {v0 : Nat} {M : XM} {q : XM} (H : f_X0_init v0 M = some q) : Ct l m_X0_init 1 1 20 [(.ref v0)] M (x_Rv q) := x_met l m_X0_init 1 1 20 [(.ref v0)] M (x_Rv q) _ rfl rfl (Nat.le_of_ble_eq_true rfl) (t_X0_init l H)
theorem lk_320 : Cond.fieldLink RX0 15 RX0 "ran" "I" ∈ x_TB := x_tb (k := 320) (by decide +kernel) rfl
abbrev m_X0_forgetTrace : XU := (yX0_forgetTrace, cX0_forgetTrace, 1, none)
theorem cn_X0_forgetTrace : m_X0_forgetTrace.1.cls ≠ "java/lang/invoke/MethodHandle" ∧ m_X0_forgetTrace.1.cls ≠ "java/lang/invoke/VarHandle" ∧ (parseMethodDescriptor m_X0_forgetTrace.1.desc).map (fun q => q.parameters.length) = some 0 := by decide +kernel
def f_X0_forgetTrace (v0 : Nat) (M : XM) : Option XM :=
  if x_tag M v0 = 0 + 10 then (x_lt (x_wi M v0 0 (0 : Int32)) (fun M2 => some M2)) else none
set_option maxRecDepth 20000 in
set_option maxHeartbeats 4000000 in
theorem t_X0_forgetTrace (l : Launch) {v0 : Nat} {M : XM} {q : XM} (H : f_X0_forgetTrace v0 M = some q) : AW l m_X0_forgetTrace 1 0 0 (x_Rv q) 0 0 0 [some (.ref v0)] [] M := by
  unfold f_X0_forgetTrace at H
  refine x_aload_n 0 0 dX0_forgetTrace_0 rfl rfl ?_
  refine x_iconst 1 (0 : Int32) dX0_forgetTrace_1 (by decide) ?_
  obtain ⟨h1, H⟩ := x_ckp H
  obtain ⟨M2, w3, H⟩ := x_lt_of H
  have h4 : x_tag M2 v0 = 0 + 10 := by rw [w3]; exact h1
  refine x_putI' 2 15 0 0 dX0_forgetTrace_2 lk_320 (by decide) (by decide) rfl (Or.inl rfl) (Or.inl rfl) h1 w3 ?_
  cases H
  exact x_vret 5 dX0_forgetTrace_5 rfl (Nat.le_of_ble_eq_true rfl) (Nat.le_of_ble_eq_true rfl) ⟨rfl, rfl⟩

theorem ct_X0_forgetTrace (l : Launch) {v0 : Nat} {M : XM} {q : XM} (H : f_X0_forgetTrace v0 M = some q) : Ct l m_X0_forgetTrace 1 0 0 [(.ref v0)] M (x_Rv q) := x_met l m_X0_forgetTrace 1 0 0 [(.ref v0)] M (x_Rv q) _ rfl rfl (Nat.le_of_ble_eq_true rfl) (t_X0_forgetTrace l H)
abbrev m_X0_bodyAt : XU := (yX0_bodyAt, cX0_bodyAt, 2, (some .int))
theorem cn_X0_bodyAt : m_X0_bodyAt.1.cls ≠ "java/lang/invoke/MethodHandle" ∧ m_X0_bodyAt.1.cls ≠ "java/lang/invoke/VarHandle" ∧ (parseMethodDescriptor m_X0_bodyAt.1.desc).map (fun q => q.parameters.length) = some 1 := by decide +kernel
def f_X0_bodyAt (v0 : Nat) (v1 : Int32) (M : XM) : Option (Int32 × XM) :=
  if v1 < 0 then (some ((-1 : Int32), M)) else (if x_tag M v0 = 0 + 10 then (if (x_i M v0 0) ≤ v1 then (some ((-1 : Int32), M)) else (if x_tag M (x_r M v0 1) = 1 then (if (Int32.ofNat (x_len M (x_r M v0 1))) ≤ v1 then (some ((-1 : Int32), M)) else (if x_at M (x_r M v0 1) 1 v1 = true then (some ((x_i M (x_r M v0 1) v1.toNatClampNeg), M)) else none)) else none)) else none)
set_option maxRecDepth 20000 in
set_option maxHeartbeats 4000000 in
theorem t_X0_bodyAt (l : Launch) {v0 : Nat} {v1 : Int32} {M : XM} {q : Int32 × XM} (H : f_X0_bodyAt v0 v1 M = some q) : AW l m_X0_bodyAt 1 0 0 (x_Ri q) 0 0 0 [some (.ref v0), some (.int v1)] [] M := by
  unfold f_X0_bodyAt at H
  refine x_iload_n 0 1 dX0_bodyAt_0 rfl rfl ?_
  refine x_if_lt 1 30 dX0_bodyAt_1 (by decide) (fun c1 => ?_) (fun c1 => ?_)
  · replace H := x_ifp c1 H
    refine x_iconst 30 (-1 : Int32) dX0_bodyAt_30 (by decide) ?_
    cases H
    exact x_iret 31 dX0_bodyAt_31 .int rfl rfl (Nat.le_of_ble_eq_true rfl) (Nat.le_of_ble_eq_true rfl) ⟨rfl, rfl⟩
  · replace H := x_ifn c1 H
    refine x_iload_n 4 1 dX0_bodyAt_4 rfl rfl ?_
    refine x_aload_n 5 0 dX0_bodyAt_5 rfl rfl ?_
    obtain ⟨h2, H⟩ := x_ckp H
    refine x_getf 6 15 0 0 (.int (x_i M v0 0)) dX0_bodyAt_6 lk_320 (by decide) (by decide) rfl (fun _ => rfl) h2 ?_
    refine x_icmp_ge 9 30 dX0_bodyAt_9 (by decide) (fun c3 => ?_) (fun c3 => ?_)
    · replace H := x_ifp c3 H
      refine x_iconst 30 (-1 : Int32) dX0_bodyAt_30 (by decide) ?_
      cases H
      exact x_iret 31 dX0_bodyAt_31 .int rfl rfl (Nat.le_of_ble_eq_true rfl) (Nat.le_of_ble_eq_true rfl) ⟨rfl, rfl⟩
    · replace H := x_ifn c3 H
      refine x_iload_n 12 1 dX0_bodyAt_12 rfl rfl ?_
      refine x_aload_n 13 0 dX0_bodyAt_13 rfl rfl ?_
      refine x_getf 14 9 0 1 (.ref (x_r M v0 1)) dX0_bodyAt_14 lk_322 (by decide) (by decide) rfl (fun _ => rfl) h2 ?_
      obtain ⟨h4, H⟩ := x_ckp H
      refine x_alen 17 1 dX0_bodyAt_17 h4 (by decide) ?_
      refine x_icmp_ge 18 30 dX0_bodyAt_18 (by decide) (fun c5 => ?_) (fun c5 => ?_)
      · replace H := x_ifp c5 H
        refine x_iconst 30 (-1 : Int32) dX0_bodyAt_30 (by decide) ?_
        cases H
        exact x_iret 31 dX0_bodyAt_31 .int rfl rfl (Nat.le_of_ble_eq_true rfl) (Nat.le_of_ble_eq_true rfl) ⟨rfl, rfl⟩
      · replace H := x_ifn c5 H
        refine x_aload_n 21 0 dX0_bodyAt_21 rfl rfl ?_
        refine x_getf 22 9 0 1 (.ref (x_r M v0 1)) dX0_bodyAt_22 lk_322 (by decide) (by decide) rfl (fun _ => rfl) h2 ?_
        refine x_iload_n 25 1 dX0_bodyAt_25 rfl rfl ?_
        obtain ⟨h6, H⟩ := x_ckp H
        refine x_iald 26 dX0_bodyAt_26 h6 ?_
        refine x_goto 27 31 dX0_bodyAt_27 (by decide) ?_
        cases H
        exact x_iret 31 dX0_bodyAt_31 .int rfl rfl (Nat.le_of_ble_eq_true rfl) (Nat.le_of_ble_eq_true rfl) ⟨rfl, rfl⟩

theorem ct_X0_bodyAt (l : Launch) {v0 : Nat} {v1 : Int32} {M : XM} {q : Int32 × XM} (H : f_X0_bodyAt v0 v1 M = some q) : Ct l m_X0_bodyAt 1 0 0 [(.ref v0), (.int v1)] M (x_Ri q) := x_met l m_X0_bodyAt 1 0 0 [(.ref v0), (.int v1)] M (x_Ri q) _ rfl rfl (Nat.le_of_ble_eq_true rfl) (t_X0_bodyAt l H)
theorem lk_124 : Cond.fieldLink RX0 19 RX2 "kind" "I" ∈ x_TB := x_tb (k := 124) (by decide +kernel) rfl
theorem lk_323 : Cond.fieldLink RX0 24 RX0 "kind" "I" ∈ x_TB := x_tb (k := 323) (by decide +kernel) rfl
theorem lk_324 : Cond.fieldLink RX0 25 RX0 "number" "I" ∈ x_TB := x_tb (k := 324) (by decide +kernel) rfl
theorem lk_127 : Cond.fieldLink RX0 28 RX2 "a" "I" ∈ x_TB := x_tb (k := 127) (by decide +kernel) rfl
theorem lk_325 : Cond.fieldLink RX0 31 RX0 "a" "I" ∈ x_TB := x_tb (k := 325) (by decide +kernel) rfl
abbrev m_X0_begin : XU := (yX0_begin, cX0_begin, 2, none)
theorem cn_X0_begin : m_X0_begin.1.cls ≠ "java/lang/invoke/MethodHandle" ∧ m_X0_begin.1.cls ≠ "java/lang/invoke/VarHandle" ∧ (parseMethodDescriptor m_X0_begin.1.desc).map (fun q => q.parameters.length) = some 1 := by decide +kernel
def f_X0_begin_22 (v0 : Nat) (M : XM) : Option XM :=
  if x_tag M v0 = 0 + 10 then (x_lt (x_wi M v0 0 ((x_i M v0 0) + (1 : Int32))) (fun M5 => some M5)) else none
set_option maxRecDepth 20000 in
set_option maxHeartbeats 4000000 in
theorem t_X0_begin_22 (l : Launch) {v0 : Nat} {M : XM} {q : XM} (H : f_X0_begin_22 v0 M = some q) : AW l m_X0_begin 1 0 0 (x_Rv q) 0 0 22 [some (.ref v0), none] [] M := by
  unfold f_X0_begin_22 at H
  refine x_aload_n 22 0 dX0_begin_22 rfl rfl ?_
  refine x_dup 23 dX0_begin_23 rfl ?_
  obtain ⟨h4, H⟩ := x_ckp H
  refine x_getf 24 15 0 0 (.int (x_i M v0 0)) dX0_begin_24 lk_320 (by decide) (by decide) rfl (fun _ => rfl) h4 ?_
  refine x_iconst 27 (1 : Int32) dX0_begin_27 (by decide) ?_
  refine x_iadd 28 dX0_begin_28 ?_
  obtain ⟨M5, w6, H⟩ := x_lt_of H
  have h7 : x_tag M5 v0 = 0 + 10 := by rw [w6]; exact h4
  refine x_putI' 29 15 0 0 dX0_begin_29 lk_320 (by decide) (by decide) rfl (Or.inl rfl) (Or.inl rfl) h4 w6 ?_
  cases H
  exact x_vret 32 dX0_begin_32 rfl (Nat.le_of_ble_eq_true rfl) (Nat.le_of_ble_eq_true rfl) ⟨rfl, rfl⟩

def f_X0_begin (v0 : Nat) (v1 : Int32) (M : XM) : Option XM :=
  if x_tag M v0 = 0 + 10 then (if x_tag M (x_r M v0 1) = 1 then (if (Int32.ofNat (x_len M (x_r M v0 1))) ≤ (x_i M v0 0) then (f_X0_begin_22 v0 M) else (if x_at M (x_r M v0 1) 1 (x_i M v0 0) = true then (x_lt (x_wi M (x_r M v0 1) (x_i M v0 0).toNatClampNeg v1) (fun M9 => f_X0_begin_22 v0 M9)) else none)) else none) else none
set_option maxRecDepth 20000 in
set_option maxHeartbeats 4000000 in
theorem t_X0_begin (l : Launch) {v0 : Nat} {v1 : Int32} {M : XM} {q : XM} (H : f_X0_begin v0 v1 M = some q) : AW l m_X0_begin 1 0 0 (x_Rv q) 0 0 0 [some (.ref v0), some (.int v1)] [] M := by
  unfold f_X0_begin at H
  refine x_aload_n 0 0 dX0_begin_0 rfl rfl ?_
  obtain ⟨h1, H⟩ := x_ckp H
  refine x_getf 1 15 0 0 (.int (x_i M v0 0)) dX0_begin_1 lk_320 (by decide) (by decide) rfl (fun _ => rfl) h1 ?_
  refine x_aload_n 4 0 dX0_begin_4 rfl rfl ?_
  refine x_getf 5 9 0 1 (.ref (x_r M v0 1)) dX0_begin_5 lk_322 (by decide) (by decide) rfl (fun _ => rfl) h1 ?_
  obtain ⟨h2, H⟩ := x_ckp H
  refine x_alen 8 1 dX0_begin_8 h2 (by decide) ?_
  refine x_icmp_ge 9 22 dX0_begin_9 (by decide) (fun c3 => ?_) (fun c3 => ?_)
  · replace H := x_ifp c3 H
    exact x_wk (le_s (le_n le_0)) (t_X0_begin_22 l H)
  · replace H := x_ifn c3 H
    refine x_aload_n 12 0 dX0_begin_12 rfl rfl ?_
    refine x_getf 13 9 0 1 (.ref (x_r M v0 1)) dX0_begin_13 lk_322 (by decide) (by decide) rfl (fun _ => rfl) h1 ?_
    refine x_aload_n 16 0 dX0_begin_16 rfl rfl ?_
    refine x_getf 17 15 0 0 (.int (x_i M v0 0)) dX0_begin_17 lk_320 (by decide) (by decide) rfl (fun _ => rfl) h1 ?_
    refine x_iload_n 20 1 dX0_begin_20 rfl rfl ?_
    obtain ⟨h8, H⟩ := x_ckp H
    obtain ⟨M9, w10, H⟩ := x_lt_of H
    have h11 : x_tag M9 v0 = 0 + 10 := by rw [w10]; exact h1
    have h12 : x_tag M9 (x_r M v0 1) = 1 := by rw [w10]; exact h2
    have h13 : x_at M9 (x_r M v0 1) 1 (x_i M v0 0) = true := by rw [w10]; exact h8
    refine x_iast' 21 dX0_begin_21 h8 w10 ?_
    exact x_wk (le_s (le_n le_0)) (t_X0_begin_22 l H)

theorem ct_X0_begin (l : Launch) {v0 : Nat} {v1 : Int32} {M : XM} {q : XM} (H : f_X0_begin v0 v1 M = some q) : Ct l m_X0_begin 1 0 0 [(.ref v0), (.int v1)] M (x_Rv q) := x_met l m_X0_begin 1 0 0 [(.ref v0), (.int v1)] M (x_Rv q) _ rfl rfl (Nat.le_of_ble_eq_true rfl) (t_X0_begin l H)
theorem lk_92 : Cond.initialized RX0 ∈ x_TB := x_tb (k := 92) (by decide +kernel) rfl
theorem lk_988 : Cond.code yX0_begin cX0_begin 2 none ∈ x_TB := x_tb (k := 988) (by decide +kernel) rfl
theorem lk_985 : Cond.methodLink RX0 42 yX0_begin ∈ x_TB := x_tb (k := 985) (by decide +kernel) rfl
theorem lk_32 : Cond.selects RX0 yX0_begin yX0_begin ∈ x_TB := x_tb (k := 32) (by decide +kernel) rfl
theorem lk_987 : Cond.instanceMethod yX0_begin ∈ x_TB := x_tb (k := 987) (by decide +kernel) rfl
theorem lk_502 : Cond.fieldLink RX8 350 "WhatDidYouSay" "ABOVE" "[I" ∈ x_TB := x_tb (k := 502) (by decide +kernel) rfl
abbrev m_X8_isKind : XU := (yX8_isKind, cX8_isKind, 1, (some .boolean))
theorem cn_X8_isKind : m_X8_isKind.1.cls ≠ "java/lang/invoke/MethodHandle" ∧ m_X8_isKind.1.cls ≠ "java/lang/invoke/VarHandle" ∧ (parseMethodDescriptor m_X8_isKind.1.desc).map (fun q => q.parameters.length) = some 1 := by decide +kernel
def f_X8_isKind (v0 : Int32) (M : XM) : Option (Int32 × XM) :=
  if v0 < 0 then (some ((0 : Int32), M)) else (if x_tag M 2 = 5 then (if (Int32.ofNat (x_len M 2)) ≤ v0 then (some ((0 : Int32), M)) else (some ((1 : Int32), M))) else none)
set_option maxRecDepth 20000 in
set_option maxHeartbeats 4000000 in
theorem t_X8_isKind (l : Launch) {v0 : Int32} {M : XM} {q : Int32 × XM} (H : f_X8_isKind v0 M = some q) : AW l m_X8_isKind 1 0 0 (x_Ri q) 0 0 0 [some (.int v0)] [] M := by
  unfold f_X8_isKind at H
  refine x_iload_n 0 0 dX8_isKind_0 rfl rfl ?_
  refine x_if_lt 1 16 dX8_isKind_1 (by decide) (fun c1 => ?_) (fun c1 => ?_)
  · replace H := x_ifp c1 H
    refine x_iconst 16 (0 : Int32) dX8_isKind_16 (by decide) ?_
    cases H
    exact x_iret 17 dX8_isKind_17 .boolean rfl rfl (Nat.le_of_ble_eq_true rfl) (Nat.le_of_ble_eq_true rfl) ⟨rfl, rfl⟩
  · replace H := x_ifn c1 H
    refine x_iload_n 4 0 dX8_isKind_4 rfl rfl ?_
    refine x_gets 5 350 2 "ABOVE" "[I" dX8_isKind_5 "WhatDidYouSay" x_ZA lk_502 ?_
    obtain ⟨h2, H⟩ := x_ckp H
    refine x_salen 8 dX8_isKind_8 h2 (by decide) ?_
    refine x_icmp_ge 9 16 dX8_isKind_9 (by decide) (fun c3 => ?_) (fun c3 => ?_)
    · replace H := x_ifp c3 H
      refine x_iconst 16 (0 : Int32) dX8_isKind_16 (by decide) ?_
      cases H
      exact x_iret 17 dX8_isKind_17 .boolean rfl rfl (Nat.le_of_ble_eq_true rfl) (Nat.le_of_ble_eq_true rfl) ⟨rfl, rfl⟩
    · replace H := x_ifn c3 H
      refine x_iconst 12 (1 : Int32) dX8_isKind_12 (by decide) ?_
      refine x_goto 13 17 dX8_isKind_13 (by decide) ?_
      cases H
      exact x_iret 17 dX8_isKind_17 .boolean rfl rfl (Nat.le_of_ble_eq_true rfl) (Nat.le_of_ble_eq_true rfl) ⟨rfl, rfl⟩

theorem ct_X8_isKind (l : Launch) {v0 : Int32} {M : XM} {q : Int32 × XM} (H : f_X8_isKind v0 M = some q) : Ct l m_X8_isKind 1 0 0 [(.int v0)] M (x_Ri q) := x_met l m_X8_isKind 1 0 0 [(.int v0)] M (x_Ri q) _ rfl rfl (Nat.le_of_ble_eq_true rfl) (t_X8_isKind l H)
theorem lk_85 : Cond.initialized RX8 ∈ x_TB := x_tb (k := 85) (by decide +kernel) rfl
theorem lk_501 : Cond.code yX8_isKind cX8_isKind 1 (some .boolean) ∈ x_TB := x_tb (k := 501) (by decide +kernel) rfl
theorem lk_499 : Cond.methodLink RX8 134 yX8_isKind ∈ x_TB := x_tb (k := 499) (by decide +kernel) rfl
theorem lk_500 : Cond.static yX8_isKind ∈ x_TB := x_tb (k := 500) (by decide +kernel) rfl
abbrev m_X8_above : XU := (yX8_above, cX8_above, 1, (some .int))
theorem cn_X8_above : m_X8_above.1.cls ≠ "java/lang/invoke/MethodHandle" ∧ m_X8_above.1.cls ≠ "java/lang/invoke/VarHandle" ∧ (parseMethodDescriptor m_X8_above.1.desc).map (fun q => q.parameters.length) = some 1 := by decide +kernel
def f_X8_above_c1 (v0 : Int32) (s0 : Int32) (M : XM) : Option (Int32 × XM) :=
  if s0 = 0 then (some ((-1 : Int32), M)) else (if x_at M 2 5 v0 = true then (some ((x_i M 2 v0.toNatClampNeg), M)) else none)
set_option maxRecDepth 20000 in
set_option maxHeartbeats 4000000 in
theorem t_X8_above_c1 (l : Launch) {v0 : Int32} {s0 : Int32} {M : XM} {q : Int32 × XM} (H : f_X8_above_c1 v0 s0 M = some q) : AW l m_X8_above 2 0 0 (x_Ri q) 0 0 4 [some (.int v0)] [(.int s0)] M := by
  unfold f_X8_above_c1 at H
  refine x_if_eq 4 15 dX8_above_4 (by decide) (fun c4 => ?_) (fun c4 => ?_)
  · replace H := x_ifp c4 H
    refine x_iconst 15 (-1 : Int32) dX8_above_15 (by decide) ?_
    cases H
    exact x_iret 16 dX8_above_16 .int rfl rfl (Nat.le_of_ble_eq_true rfl) (Nat.le_of_ble_eq_true rfl) ⟨rfl, rfl⟩
  · replace H := x_ifn c4 H
    refine x_gets 7 350 2 "ABOVE" "[I" dX8_above_7 "WhatDidYouSay" x_ZA lk_502 ?_
    refine x_iload_n 10 0 dX8_above_10 rfl rfl ?_
    obtain ⟨h5, H⟩ := x_ckp H
    refine x_siald 11 dX8_above_11 h5 (by decide) ?_
    refine x_goto 12 16 dX8_above_12 (by decide) ?_
    cases H
    exact x_iret 16 dX8_above_16 .int rfl rfl (Nat.le_of_ble_eq_true rfl) (Nat.le_of_ble_eq_true rfl) ⟨rfl, rfl⟩

def f_X8_above (v0 : Int32) (M : XM) : Option (Int32 × XM) :=
  x_bd (f_X8_isKind v0 M) (f_X8_above_c1 v0)
set_option maxRecDepth 20000 in
set_option maxHeartbeats 4000000 in
theorem t_X8_above (l : Launch) {v0 : Int32} {M : XM} {q : Int32 × XM} (H : f_X8_above v0 M = some q) : AW l m_X8_above 2 0 0 (x_Ri q) 0 0 0 [some (.int v0)] [] M := by
  unfold f_X8_above at H
  refine x_iload_n 0 0 dX8_above_0 rfl rfl ?_
  obtain ⟨r2, M1, e3, H⟩ := x_bd_of H
  refine x_callS 1 134 [(.int v0)] [] dX8_above_1 (ct_X8_isKind l e3) lk_499 lk_500 lk_85 lk_501 ⟨cn_X8_isKind, (by decide), by decide⟩ rfl (Nat.le_of_ble_eq_true rfl) (Nat.le_of_ble_eq_true rfl) (Nat.le_of_ble_eq_true rfl) (x_ri ?_)
  exact t_X8_above_c1 l H

theorem ct_X8_above (l : Launch) {v0 : Int32} {M : XM} {q : Int32 × XM} (H : f_X8_above v0 M = some q) : Ct l m_X8_above 2 0 0 [(.int v0)] M (x_Ri q) := x_met l m_X8_above 2 0 0 [(.int v0)] M (x_Ri q) _ rfl rfl (Nat.le_of_ble_eq_true rfl) (t_X8_above l H)
theorem lk_509 : Cond.code yX8_above cX8_above 1 (some .int) ∈ x_TB := x_tb (k := 509) (by decide +kernel) rfl
theorem lk_508 : Cond.static yX8_above ∈ x_TB := x_tb (k := 508) (by decide +kernel) rfl
theorem lk_984 : Cond.code yX0_doCounts cX0_doCounts 3 (some .int) ∈ x_TB := x_tb (k := 984) (by decide +kernel) rfl
theorem lk_981 : Cond.methodLink RX0 32 yX0_doCounts ∈ x_TB := x_tb (k := 981) (by decide +kernel) rfl
theorem lk_31 : Cond.selects RX0 yX0_doCounts yX0_doCounts ∈ x_TB := x_tb (k := 31) (by decide +kernel) rfl
theorem lk_983 : Cond.instanceMethod yX0_doCounts ∈ x_TB := x_tb (k := 983) (by decide +kernel) rfl
abbrev m_X0_doCounts : XU := (yX0_doCounts, cX0_doCounts, 3, (some .int))
theorem cn_X0_doCounts : m_X0_doCounts.1.cls ≠ "java/lang/invoke/MethodHandle" ∧ m_X0_doCounts.1.cls ≠ "java/lang/invoke/VarHandle" ∧ (parseMethodDescriptor m_X0_doCounts.1.desc).map (fun q => q.parameters.length) = some 2 := by decide +kernel
def f_X0_doCounts_c47 (κr : Nat → Int32 → Int32 → XM → Option (Int32 × XM)) (v0 : Nat) (v2 : Int32) (M : XM) : Option (Int32 × XM) :=
  if x_tag M v0 = 0 + 10 then (some ((v2 + (x_i M v0 3)), M)) else none
set_option maxRecDepth 20000 in
set_option maxHeartbeats 4000000 in
theorem t_X0_doCounts_c47 (l : Launch) {r : Nat} {κr : Nat → Int32 → Int32 → XM → Option (Int32 × XM)} {v0 : Nat} {v2 : Int32} {M : XM} {q : Int32 × XM} (hκr : ∀ {v0 : Nat} {v1 : Int32} {v2 : Int32} {M : XM} {q : Int32 × XM}, κr v0 v1 v2 M = some q → Ct l m_X0_doCounts (3 + r) 0 0 [(.ref v0), (.int v1), (.int v2)] M (x_Ri q)) (H : f_X0_doCounts_c47 κr v0 v2 M = some q) : AW l m_X0_doCounts (3 + (r + 1)) 0 0 (x_Ri q) 0 0 50 [some (.ref v0), none, some (.int v2)] [] M := by
  unfold f_X0_doCounts_c47 at H
  refine x_iload_n 50 2 dX0_doCounts_50 rfl rfl ?_
  refine x_aload_n 51 0 dX0_doCounts_51 rfl rfl ?_
  obtain ⟨h6, H⟩ := x_ckp H
  refine x_getf 52 25 0 3 (.int (x_i M v0 3)) dX0_doCounts_52 lk_324 (by decide) (by decide) rfl (fun _ => rfl) h6 ?_
  refine x_iadd 55 dX0_doCounts_55 ?_
  cases H
  exact x_iret 56 dX0_doCounts_56 .int rfl rfl (Nat.le_of_ble_eq_true rfl) (Nat.le_of_ble_eq_true rfl) ⟨rfl, rfl⟩

def f_X0_doCounts_c69 (κr : Nat → Int32 → Int32 → XM → Option (Int32 × XM)) (v0 : Nat) (s0 : Int32) (M : XM) : Option (Int32 × XM) :=
  if x_tag M v0 = 0 + 10 then (some ((s0 + (x_i M v0 4)), M)) else none
set_option maxRecDepth 20000 in
set_option maxHeartbeats 4000000 in
theorem t_X0_doCounts_c69 (l : Launch) {r : Nat} {κr : Nat → Int32 → Int32 → XM → Option (Int32 × XM)} {v0 : Nat} {s0 : Int32} {M : XM} {q : Int32 × XM} (hκr : ∀ {v0 : Nat} {v1 : Int32} {v2 : Int32} {M : XM} {q : Int32 × XM}, κr v0 v1 v2 M = some q → Ct l m_X0_doCounts (3 + r) 0 0 [(.ref v0), (.int v1), (.int v2)] M (x_Ri q)) (H : f_X0_doCounts_c69 κr v0 s0 M = some q) : AW l m_X0_doCounts (3 + (r + 1)) 0 0 (x_Ri q) 0 0 72 [some (.ref v0), none, none] [(.int s0)] M := by
  unfold f_X0_doCounts_c69 at H
  refine x_aload_n 72 0 dX0_doCounts_72 rfl rfl ?_
  obtain ⟨h19, H⟩ := x_ckp H
  refine x_getf 73 31 0 4 (.int (x_i M v0 4)) dX0_doCounts_73 lk_325 (by decide) (by decide) rfl (fun _ => rfl) h19 ?_
  refine x_iadd 76 dX0_doCounts_76 ?_
  cases H
  exact x_iret 77 dX0_doCounts_77 .int rfl rfl (Nat.le_of_ble_eq_true rfl) (Nat.le_of_ble_eq_true rfl) ⟨rfl, rfl⟩

def f_X0_doCounts_c65 (κr : Nat → Int32 → Int32 → XM → Option (Int32 × XM)) (v0 : Nat) (v2 : Int32) (s1 : Nat) (s0 : Int32) (M : XM) : Option (Int32 × XM) :=
  if x_tag M s1 = 0 + 10 then (x_bd (κr s1 s0 v2 M) (f_X0_doCounts_c69 κr v0)) else none
set_option maxRecDepth 20000 in
set_option maxHeartbeats 4000000 in
theorem t_X0_doCounts_c65 (l : Launch) {r : Nat} {κr : Nat → Int32 → Int32 → XM → Option (Int32 × XM)} {v0 : Nat} {v2 : Int32} {s1 : Nat} {s0 : Int32} {M : XM} {q : Int32 × XM} (hκr : ∀ {v0 : Nat} {v1 : Int32} {v2 : Int32} {M : XM} {q : Int32 × XM}, κr v0 v1 v2 M = some q → Ct l m_X0_doCounts (3 + r) 0 0 [(.ref v0), (.int v1), (.int v2)] M (x_Ri q)) (H : f_X0_doCounts_c65 κr v0 v2 s1 s0 M = some q) : AW l m_X0_doCounts (3 + (r + 1)) 0 0 (x_Ri q) 0 0 68 [some (.ref v0), none, some (.int v2)] [(.int s0), (.ref s1)] M := by
  unfold f_X0_doCounts_c65 at H
  refine x_iload_n 68 2 dX0_doCounts_68 rfl rfl ?_
  obtain ⟨h15, H⟩ := x_ckp H
  obtain ⟨r17, M16, e18, H⟩ := x_bd_of H
  refine x_callV 69 32 0 [(.int s0), (.int v2)] [] dX0_doCounts_69 (hκr e18) lk_981 lk_983 lk_31 (by decide) h15 lk_92 lk_984 ⟨cn_X0_doCounts, (by omega), by decide⟩ rfl (Nat.le_of_ble_eq_true rfl) (Nat.le_of_ble_eq_true rfl) (Nat.le_of_ble_eq_true rfl) (x_ri ?_)
  exact x_wk (le_s (le_s (le_n le_0))) (t_X0_doCounts_c69 l hκr H)

def f_X0_doCounts_c60 (κr : Nat → Int32 → Int32 → XM → Option (Int32 × XM)) (v0 : Nat) (v1 : Int32) (v2 : Int32) (M : XM) : Option (Int32 × XM) :=
  x_bd (f_X8_above v1 M) (f_X0_doCounts_c65 κr v0 v2 v0)
set_option maxRecDepth 20000 in
set_option maxHeartbeats 4000000 in
theorem t_X0_doCounts_c60 (l : Launch) {r : Nat} {κr : Nat → Int32 → Int32 → XM → Option (Int32 × XM)} {v0 : Nat} {v1 : Int32} {v2 : Int32} {M : XM} {q : Int32 × XM} (hκr : ∀ {v0 : Nat} {v1 : Int32} {v2 : Int32} {M : XM} {q : Int32 × XM}, κr v0 v1 v2 M = some q → Ct l m_X0_doCounts (3 + r) 0 0 [(.ref v0), (.int v1), (.int v2)] M (x_Ri q)) (H : f_X0_doCounts_c60 κr v0 v1 v2 M = some q) : AW l m_X0_doCounts (3 + (r + 1)) 0 0 (x_Ri q) 0 0 63 [some (.ref v0), some (.int v1), some (.int v2)] [] M := by
  unfold f_X0_doCounts_c60 at H
  refine x_aload_n 63 0 dX0_doCounts_63 rfl rfl ?_
  refine x_iload_n 64 1 dX0_doCounts_64 rfl rfl ?_
  obtain ⟨r13, M12, e14, H⟩ := x_bd_of H
  refine x_callSN 65 46 [(.int v1)] [(.ref v0)] dX0_doCounts_65 (ct_X8_above l e14) (List.mem_of_getElem? (i := 13) rfl) lk_508 lk_85 lk_509 ⟨cn_X8_above, (by omega), by decide⟩ rfl (Nat.le_of_ble_eq_true rfl) (Nat.le_of_ble_eq_true rfl) (Nat.le_of_ble_eq_true rfl) (x_ri ?_)
  exact x_wk (le_s (le_n (le_s le_0))) (t_X0_doCounts_c65 l hκr H)

def f_X0_doCounts_c90 (κr : Nat → Int32 → Int32 → XM → Option (Int32 × XM)) (v0 : Nat) (s0 : Int32) (M : XM) : Option (Int32 × XM) :=
  if x_tag M v0 = 0 + 10 then (some ((s0 - (x_i M v0 3)), M)) else none
set_option maxRecDepth 20000 in
set_option maxHeartbeats 4000000 in
theorem t_X0_doCounts_c90 (l : Launch) {r : Nat} {κr : Nat → Int32 → Int32 → XM → Option (Int32 × XM)} {v0 : Nat} {s0 : Int32} {M : XM} {q : Int32 × XM} (hκr : ∀ {v0 : Nat} {v1 : Int32} {v2 : Int32} {M : XM} {q : Int32 × XM}, κr v0 v1 v2 M = some q → Ct l m_X0_doCounts (3 + r) 0 0 [(.ref v0), (.int v1), (.int v2)] M (x_Ri q)) (H : f_X0_doCounts_c90 κr v0 s0 M = some q) : AW l m_X0_doCounts (3 + (r + 1)) 0 0 (x_Ri q) 0 0 93 [some (.ref v0), none, none] [(.int s0)] M := by
  unfold f_X0_doCounts_c90 at H
  refine x_aload_n 93 0 dX0_doCounts_93 rfl rfl ?_
  obtain ⟨h32, H⟩ := x_ckp H
  refine x_getf 94 25 0 3 (.int (x_i M v0 3)) dX0_doCounts_94 lk_324 (by decide) (by decide) rfl (fun _ => rfl) h32 ?_
  refine x_isub 97 dX0_doCounts_97 ?_
  cases H
  exact x_iret 98 dX0_doCounts_98 .int rfl rfl (Nat.le_of_ble_eq_true rfl) (Nat.le_of_ble_eq_true rfl) ⟨rfl, rfl⟩

def f_X0_doCounts_c86 (κr : Nat → Int32 → Int32 → XM → Option (Int32 × XM)) (v0 : Nat) (v2 : Int32) (s1 : Nat) (s0 : Int32) (M : XM) : Option (Int32 × XM) :=
  if x_tag M s1 = 0 + 10 then (x_bd (κr s1 s0 v2 M) (f_X0_doCounts_c90 κr v0)) else none
set_option maxRecDepth 20000 in
set_option maxHeartbeats 4000000 in
theorem t_X0_doCounts_c86 (l : Launch) {r : Nat} {κr : Nat → Int32 → Int32 → XM → Option (Int32 × XM)} {v0 : Nat} {v2 : Int32} {s1 : Nat} {s0 : Int32} {M : XM} {q : Int32 × XM} (hκr : ∀ {v0 : Nat} {v1 : Int32} {v2 : Int32} {M : XM} {q : Int32 × XM}, κr v0 v1 v2 M = some q → Ct l m_X0_doCounts (3 + r) 0 0 [(.ref v0), (.int v1), (.int v2)] M (x_Ri q)) (H : f_X0_doCounts_c86 κr v0 v2 s1 s0 M = some q) : AW l m_X0_doCounts (3 + (r + 1)) 0 0 (x_Ri q) 0 0 89 [some (.ref v0), none, some (.int v2)] [(.int s0), (.ref s1)] M := by
  unfold f_X0_doCounts_c86 at H
  refine x_iload_n 89 2 dX0_doCounts_89 rfl rfl ?_
  obtain ⟨h28, H⟩ := x_ckp H
  obtain ⟨r30, M29, e31, H⟩ := x_bd_of H
  refine x_callV 90 32 0 [(.int s0), (.int v2)] [] dX0_doCounts_90 (hκr e31) lk_981 lk_983 lk_31 (by decide) h28 lk_92 lk_984 ⟨cn_X0_doCounts, (by omega), by decide⟩ rfl (Nat.le_of_ble_eq_true rfl) (Nat.le_of_ble_eq_true rfl) (Nat.le_of_ble_eq_true rfl) (x_ri ?_)
  exact x_wk (le_s (le_s (le_n le_0))) (t_X0_doCounts_c90 l hκr H)

def f_X0_doCounts_c81 (κr : Nat → Int32 → Int32 → XM → Option (Int32 × XM)) (v0 : Nat) (v1 : Int32) (v2 : Int32) (M : XM) : Option (Int32 × XM) :=
  x_bd (f_X8_above v1 M) (f_X0_doCounts_c86 κr v0 v2 v0)
set_option maxRecDepth 20000 in
set_option maxHeartbeats 4000000 in
theorem t_X0_doCounts_c81 (l : Launch) {r : Nat} {κr : Nat → Int32 → Int32 → XM → Option (Int32 × XM)} {v0 : Nat} {v1 : Int32} {v2 : Int32} {M : XM} {q : Int32 × XM} (hκr : ∀ {v0 : Nat} {v1 : Int32} {v2 : Int32} {M : XM} {q : Int32 × XM}, κr v0 v1 v2 M = some q → Ct l m_X0_doCounts (3 + r) 0 0 [(.ref v0), (.int v1), (.int v2)] M (x_Ri q)) (H : f_X0_doCounts_c81 κr v0 v1 v2 M = some q) : AW l m_X0_doCounts (3 + (r + 1)) 0 0 (x_Ri q) 0 0 84 [some (.ref v0), some (.int v1), some (.int v2)] [] M := by
  unfold f_X0_doCounts_c81 at H
  refine x_aload_n 84 0 dX0_doCounts_84 rfl rfl ?_
  refine x_iload_n 85 1 dX0_doCounts_85 rfl rfl ?_
  obtain ⟨r26, M25, e27, H⟩ := x_bd_of H
  refine x_callSN 86 46 [(.int v1)] [(.ref v0)] dX0_doCounts_86 (ct_X8_above l e27) (List.mem_of_getElem? (i := 13) rfl) lk_508 lk_85 lk_509 ⟨cn_X8_above, (by omega), by decide⟩ rfl (Nat.le_of_ble_eq_true rfl) (Nat.le_of_ble_eq_true rfl) (Nat.le_of_ble_eq_true rfl) (x_ri ?_)
  exact x_wk (le_s (le_n (le_s le_0))) (t_X0_doCounts_c86 l hκr H)

def f_X0_doCounts_c111 (κr : Nat → Int32 → Int32 → XM → Option (Int32 × XM)) (s0 : Int32) (M : XM) : Option (Int32 × XM) :=
  some ((s0 * (2 : Int32)), M)
set_option maxRecDepth 20000 in
set_option maxHeartbeats 4000000 in
theorem t_X0_doCounts_c111 (l : Launch) {r : Nat} {κr : Nat → Int32 → Int32 → XM → Option (Int32 × XM)} {s0 : Int32} {M : XM} {q : Int32 × XM} (hκr : ∀ {v0 : Nat} {v1 : Int32} {v2 : Int32} {M : XM} {q : Int32 × XM}, κr v0 v1 v2 M = some q → Ct l m_X0_doCounts (3 + r) 0 0 [(.ref v0), (.int v1), (.int v2)] M (x_Ri q)) (H : f_X0_doCounts_c111 κr s0 M = some q) : AW l m_X0_doCounts (3 + (r + 1)) 0 0 (x_Ri q) 0 0 114 [none, none, none] [(.int s0)] M := by
  unfold f_X0_doCounts_c111 at H
  refine x_iconst 114 (2 : Int32) dX0_doCounts_114 (by decide) ?_
  refine x_imul 115 dX0_doCounts_115 ?_
  cases H
  exact x_iret 116 dX0_doCounts_116 .int rfl rfl (Nat.le_of_ble_eq_true rfl) (Nat.le_of_ble_eq_true rfl) ⟨rfl, rfl⟩

def f_X0_doCounts_c107 (κr : Nat → Int32 → Int32 → XM → Option (Int32 × XM)) (v2 : Int32) (s1 : Nat) (s0 : Int32) (M : XM) : Option (Int32 × XM) :=
  if x_tag M s1 = 0 + 10 then (x_bd (κr s1 s0 v2 M) (f_X0_doCounts_c111 κr)) else none
set_option maxRecDepth 20000 in
set_option maxHeartbeats 4000000 in
theorem t_X0_doCounts_c107 (l : Launch) {r : Nat} {κr : Nat → Int32 → Int32 → XM → Option (Int32 × XM)} {v2 : Int32} {s1 : Nat} {s0 : Int32} {M : XM} {q : Int32 × XM} (hκr : ∀ {v0 : Nat} {v1 : Int32} {v2 : Int32} {M : XM} {q : Int32 × XM}, κr v0 v1 v2 M = some q → Ct l m_X0_doCounts (3 + r) 0 0 [(.ref v0), (.int v1), (.int v2)] M (x_Ri q)) (H : f_X0_doCounts_c107 κr v2 s1 s0 M = some q) : AW l m_X0_doCounts (3 + (r + 1)) 0 0 (x_Ri q) 0 0 110 [none, none, some (.int v2)] [(.int s0), (.ref s1)] M := by
  unfold f_X0_doCounts_c107 at H
  refine x_iload_n 110 2 dX0_doCounts_110 rfl rfl ?_
  obtain ⟨h41, H⟩ := x_ckp H
  obtain ⟨r43, M42, e44, H⟩ := x_bd_of H
  refine x_callV 111 32 0 [(.int s0), (.int v2)] [] dX0_doCounts_111 (hκr e44) lk_981 lk_983 lk_31 (by decide) h41 lk_92 lk_984 ⟨cn_X0_doCounts, (by omega), by decide⟩ rfl (Nat.le_of_ble_eq_true rfl) (Nat.le_of_ble_eq_true rfl) (Nat.le_of_ble_eq_true rfl) (x_ri ?_)
  exact x_wk (le_s (le_s (le_n le_0))) (t_X0_doCounts_c111 l hκr H)

def f_X0_doCounts_c102 (κr : Nat → Int32 → Int32 → XM → Option (Int32 × XM)) (v0 : Nat) (v1 : Int32) (v2 : Int32) (M : XM) : Option (Int32 × XM) :=
  x_bd (f_X8_above v1 M) (f_X0_doCounts_c107 κr v2 v0)
set_option maxRecDepth 20000 in
set_option maxHeartbeats 4000000 in
theorem t_X0_doCounts_c102 (l : Launch) {r : Nat} {κr : Nat → Int32 → Int32 → XM → Option (Int32 × XM)} {v0 : Nat} {v1 : Int32} {v2 : Int32} {M : XM} {q : Int32 × XM} (hκr : ∀ {v0 : Nat} {v1 : Int32} {v2 : Int32} {M : XM} {q : Int32 × XM}, κr v0 v1 v2 M = some q → Ct l m_X0_doCounts (3 + r) 0 0 [(.ref v0), (.int v1), (.int v2)] M (x_Ri q)) (H : f_X0_doCounts_c102 κr v0 v1 v2 M = some q) : AW l m_X0_doCounts (3 + (r + 1)) 0 0 (x_Ri q) 0 0 105 [some (.ref v0), some (.int v1), some (.int v2)] [] M := by
  unfold f_X0_doCounts_c102 at H
  refine x_aload_n 105 0 dX0_doCounts_105 rfl rfl ?_
  refine x_iload_n 106 1 dX0_doCounts_106 rfl rfl ?_
  obtain ⟨r39, M38, e40, H⟩ := x_bd_of H
  refine x_callSN 107 46 [(.int v1)] [(.ref v0)] dX0_doCounts_107 (ct_X8_above l e40) (List.mem_of_getElem? (i := 13) rfl) lk_508 lk_85 lk_509 ⟨cn_X8_above, (by omega), by decide⟩ rfl (Nat.le_of_ble_eq_true rfl) (Nat.le_of_ble_eq_true rfl) (Nat.le_of_ble_eq_true rfl) (x_ri ?_)
  exact x_wk (le_n (le_n (le_s le_0))) (t_X0_doCounts_c107 l hκr H)

def f_X0_doCounts_c126 (κr : Nat → Int32 → Int32 → XM → Option (Int32 × XM)) (v2 : Int32) (s1 : Nat) (s0 : Int32) (M : XM) : Option (Int32 × XM) :=
  if x_tag M s1 = 0 + 10 then (x_bd (κr s1 s0 v2 M) (fun r54 M53 => some (r54, M53))) else none
set_option maxRecDepth 20000 in
set_option maxHeartbeats 4000000 in
theorem t_X0_doCounts_c126 (l : Launch) {r : Nat} {κr : Nat → Int32 → Int32 → XM → Option (Int32 × XM)} {v2 : Int32} {s1 : Nat} {s0 : Int32} {M : XM} {q : Int32 × XM} (hκr : ∀ {v0 : Nat} {v1 : Int32} {v2 : Int32} {M : XM} {q : Int32 × XM}, κr v0 v1 v2 M = some q → Ct l m_X0_doCounts (3 + r) 0 0 [(.ref v0), (.int v1), (.int v2)] M (x_Ri q)) (H : f_X0_doCounts_c126 κr v2 s1 s0 M = some q) : AW l m_X0_doCounts (3 + (r + 1)) 0 0 (x_Ri q) 0 0 129 [none, none, some (.int v2)] [(.int s0), (.ref s1)] M := by
  unfold f_X0_doCounts_c126 at H
  refine x_iload_n 129 2 dX0_doCounts_129 rfl rfl ?_
  obtain ⟨h52, H⟩ := x_ckp H
  obtain ⟨r54, M53, e55, H⟩ := x_bd_of H
  refine x_callV 130 32 0 [(.int s0), (.int v2)] [] dX0_doCounts_130 (hκr e55) lk_981 lk_983 lk_31 (by decide) h52 lk_92 lk_984 ⟨cn_X0_doCounts, (by omega), by decide⟩ rfl (Nat.le_of_ble_eq_true rfl) (Nat.le_of_ble_eq_true rfl) (Nat.le_of_ble_eq_true rfl) (x_ri ?_)
  refine x_goto 133 137 dX0_doCounts_133 (by decide) ?_
  cases H
  exact x_iret 137 dX0_doCounts_137 .int rfl rfl (Nat.le_of_ble_eq_true rfl) (Nat.le_of_ble_eq_true rfl) ⟨rfl, rfl⟩

def f_X0_doCounts_c118 (κr : Nat → Int32 → Int32 → XM → Option (Int32 × XM)) (v0 : Nat) (v1 : Int32) (v2 : Int32) (s0 : Int32) (M : XM) : Option (Int32 × XM) :=
  if s0 = 0 then (some ((0 : Int32), M)) else (x_bd (f_X8_above v1 M) (f_X0_doCounts_c126 κr v2 v0))
set_option maxRecDepth 20000 in
set_option maxHeartbeats 4000000 in
theorem t_X0_doCounts_c118 (l : Launch) {r : Nat} {κr : Nat → Int32 → Int32 → XM → Option (Int32 × XM)} {v0 : Nat} {v1 : Int32} {v2 : Int32} {s0 : Int32} {M : XM} {q : Int32 × XM} (hκr : ∀ {v0 : Nat} {v1 : Int32} {v2 : Int32} {M : XM} {q : Int32 × XM}, κr v0 v1 v2 M = some q → Ct l m_X0_doCounts (3 + r) 0 0 [(.ref v0), (.int v1), (.int v2)] M (x_Ri q)) (H : f_X0_doCounts_c118 κr v0 v1 v2 s0 M = some q) : AW l m_X0_doCounts (3 + (r + 1)) 0 0 (x_Ri q) 0 0 121 [some (.ref v0), some (.int v1), some (.int v2)] [(.int s0)] M := by
  unfold f_X0_doCounts_c118 at H
  refine x_if_eq 121 136 dX0_doCounts_121 (by decide) (fun c48 => ?_) (fun c48 => ?_)
  · replace H := x_ifp c48 H
    refine x_iconst 136 (0 : Int32) dX0_doCounts_136 (by decide) ?_
    cases H
    exact x_iret 137 dX0_doCounts_137 .int rfl rfl (Nat.le_of_ble_eq_true rfl) (Nat.le_of_ble_eq_true rfl) ⟨rfl, rfl⟩
  · replace H := x_ifn c48 H
    refine x_aload_n 124 0 dX0_doCounts_124 rfl rfl ?_
    refine x_iload_n 125 1 dX0_doCounts_125 rfl rfl ?_
    obtain ⟨r50, M49, e51, H⟩ := x_bd_of H
    refine x_callSN 126 46 [(.int v1)] [(.ref v0)] dX0_doCounts_126 (ct_X8_above l e51) (List.mem_of_getElem? (i := 13) rfl) lk_508 lk_85 lk_509 ⟨cn_X8_above, (by omega), by decide⟩ rfl (Nat.le_of_ble_eq_true rfl) (Nat.le_of_ble_eq_true rfl) (Nat.le_of_ble_eq_true rfl) (x_ri ?_)
    exact x_wk (le_n (le_n (le_s le_0))) (t_X0_doCounts_c126 l hκr H)

def f_X0_doCounts_117 (κr : Nat → Int32 → Int32 → XM → Option (Int32 × XM)) (v0 : Nat) (v1 : Int32) (v2 : Int32) (M : XM) : Option (Int32 × XM) :=
  x_bd (f_X8_isKind v1 M) (f_X0_doCounts_c118 κr v0 v1 v2)
set_option maxRecDepth 20000 in
set_option maxHeartbeats 4000000 in
theorem t_X0_doCounts_117 (l : Launch) {r : Nat} {κr : Nat → Int32 → Int32 → XM → Option (Int32 × XM)} {v0 : Nat} {v1 : Int32} {v2 : Int32} {M : XM} {q : Int32 × XM} (hκr : ∀ {v0 : Nat} {v1 : Int32} {v2 : Int32} {M : XM} {q : Int32 × XM}, κr v0 v1 v2 M = some q → Ct l m_X0_doCounts (3 + r) 0 0 [(.ref v0), (.int v1), (.int v2)] M (x_Ri q)) (H : f_X0_doCounts_117 κr v0 v1 v2 M = some q) : AW l m_X0_doCounts (3 + (r + 1)) 0 0 (x_Ri q) 0 0 117 [some (.ref v0), some (.int v1), some (.int v2)] [] M := by
  unfold f_X0_doCounts_117 at H
  refine x_iload_n 117 1 dX0_doCounts_117 rfl rfl ?_
  obtain ⟨r46, M45, e47, H⟩ := x_bd_of H
  refine x_callSN 118 50 [(.int v1)] [] dX0_doCounts_118 (ct_X8_isKind l e47) (List.mem_of_getElem? (i := 14) rfl) lk_500 lk_85 lk_501 ⟨cn_X8_isKind, (by omega), by decide⟩ rfl (Nat.le_of_ble_eq_true rfl) (Nat.le_of_ble_eq_true rfl) (Nat.le_of_ble_eq_true rfl) (x_ri ?_)
  exact t_X0_doCounts_c118 l hκr H

def bd_X0_doCounts (κr : Nat → Int32 → Int32 → XM → Option (Int32 × XM)) (v0 : Nat) (v1 : Int32) (v2 : Int32) (M : XM) : Option (Int32 × XM) :=
  if v1 = (0 : Int32) then (if x_tag M v0 = 0 + 10 then (x_bv (f_X0_begin v0 (10 : Int32) M) (f_X0_doCounts_c47 κr v0 v2)) else none) else if v1 = (1 : Int32) then (if x_tag M v0 = 0 + 10 then (x_bv (f_X0_begin v0 (20 : Int32) M) (f_X0_doCounts_c60 κr v0 v1 v2)) else none) else if v1 = (4 : Int32) then (if x_tag M v0 = 0 + 10 then (x_bv (f_X0_begin v0 (51 : Int32) M) (f_X0_doCounts_c81 κr v0 v1 v2)) else none) else if v1 = (6 : Int32) then (if x_tag M v0 = 0 + 10 then (x_bv (f_X0_begin v0 (70 : Int32) M) (f_X0_doCounts_c102 κr v0 v1 v2)) else none) else f_X0_doCounts_117 κr v0 v1 v2 M
set_option maxRecDepth 20000 in
set_option maxHeartbeats 4000000 in
theorem t0_X0_doCounts (l : Launch) {r : Nat} {κr : Nat → Int32 → Int32 → XM → Option (Int32 × XM)} {v0 : Nat} {v1 : Int32} {v2 : Int32} {M : XM} {q : Int32 × XM} (hκr : ∀ {v0 : Nat} {v1 : Int32} {v2 : Int32} {M : XM} {q : Int32 × XM}, κr v0 v1 v2 M = some q → Ct l m_X0_doCounts (3 + r) 0 0 [(.ref v0), (.int v1), (.int v2)] M (x_Ri q)) (H : bd_X0_doCounts κr v0 v1 v2 M = some q) : AW l m_X0_doCounts (3 + (r + 1)) 0 0 (x_Ri q) 0 0 0 [some (.ref v0), some (.int v1), some (.int v2)] [] M := by
  unfold bd_X0_doCounts at H
  refine x_iload_n 0 1 dX0_doCounts_0 rfl rfl ?_
  by_cases c1 : v1 = (0 : Int32)
  · replace H := x_ifp c1 H
    refine x_tableIn (off := 43) 1 44 dX0_doCounts_1 (by rw [c1]; decide) (by rw [c1]; decide) (by rw [c1]; rfl) (by decide) ?_
    refine x_aload_n 44 0 dX0_doCounts_44 rfl rfl ?_
    refine x_bipush 45 (10 : Int32) dX0_doCounts_45 (by decide) ?_
    obtain ⟨h2, H⟩ := x_ckp H
    obtain ⟨M3, e5, H⟩ := x_bv_of H
    refine x_callV 47 42 0 [(.int (10 : Int32))] [] dX0_doCounts_47 (ct_X0_begin l e5) lk_985 lk_987 lk_32 (by decide) h2 lk_92 lk_988 ⟨cn_X0_begin, (by omega), by decide⟩ rfl (Nat.le_of_ble_eq_true rfl) (Nat.le_of_ble_eq_true rfl) (Nat.le_of_ble_eq_true rfl) (x_rv ?_)
    exact x_wk (le_s (le_n (le_s le_0))) (t_X0_doCounts_c47 l hκr H)
  · replace H := x_ifn c1 H
    by_cases c7 : v1 = (1 : Int32)
    · replace H := x_ifp c7 H
      refine x_tableIn (off := 56) 1 57 dX0_doCounts_1 (by rw [c7]; decide) (by rw [c7]; decide) (by rw [c7]; rfl) (by decide) ?_
      refine x_aload_n 57 0 dX0_doCounts_57 rfl rfl ?_
      refine x_bipush 58 (20 : Int32) dX0_doCounts_58 (by decide) ?_
      obtain ⟨h8, H⟩ := x_ckp H
      obtain ⟨M9, e11, H⟩ := x_bv_of H
      refine x_callV 60 42 0 [(.int (20 : Int32))] [] dX0_doCounts_60 (ct_X0_begin l e11) lk_985 lk_987 lk_32 (by decide) h8 lk_92 lk_988 ⟨cn_X0_begin, (by omega), by decide⟩ rfl (Nat.le_of_ble_eq_true rfl) (Nat.le_of_ble_eq_true rfl) (Nat.le_of_ble_eq_true rfl) (x_rv ?_)
      exact t_X0_doCounts_c60 l hκr H
    · replace H := x_ifn c7 H
      by_cases c20 : v1 = (4 : Int32)
      · replace H := x_ifp c20 H
        refine x_tableIn (off := 77) 1 78 dX0_doCounts_1 (by rw [c20]; decide) (by rw [c20]; decide) (by rw [c20]; rfl) (by decide) ?_
        refine x_aload_n 78 0 dX0_doCounts_78 rfl rfl ?_
        refine x_bipush 79 (51 : Int32) dX0_doCounts_79 (by decide) ?_
        obtain ⟨h21, H⟩ := x_ckp H
        obtain ⟨M22, e24, H⟩ := x_bv_of H
        refine x_callV 81 42 0 [(.int (51 : Int32))] [] dX0_doCounts_81 (ct_X0_begin l e24) lk_985 lk_987 lk_32 (by decide) h21 lk_92 lk_988 ⟨cn_X0_begin, (by omega), by decide⟩ rfl (Nat.le_of_ble_eq_true rfl) (Nat.le_of_ble_eq_true rfl) (Nat.le_of_ble_eq_true rfl) (x_rv ?_)
        exact t_X0_doCounts_c81 l hκr H
      · replace H := x_ifn c20 H
        by_cases c33 : v1 = (6 : Int32)
        · replace H := x_ifp c33 H
          refine x_tableIn (off := 98) 1 99 dX0_doCounts_1 (by rw [c33]; decide) (by rw [c33]; decide) (by rw [c33]; rfl) (by decide) ?_
          refine x_aload_n 99 0 dX0_doCounts_99 rfl rfl ?_
          refine x_bipush 100 (70 : Int32) dX0_doCounts_100 (by decide) ?_
          obtain ⟨h34, H⟩ := x_ckp H
          obtain ⟨M35, e37, H⟩ := x_bv_of H
          refine x_callV 102 42 0 [(.int (70 : Int32))] [] dX0_doCounts_102 (ct_X0_begin l e37) lk_985 lk_987 lk_32 (by decide) h34 lk_92 lk_988 ⟨cn_X0_begin, (by omega), by decide⟩ rfl (Nat.le_of_ble_eq_true rfl) (Nat.le_of_ble_eq_true rfl) (Nat.le_of_ble_eq_true rfl) (x_rv ?_)
          exact t_X0_doCounts_c102 l hκr H
        · replace H := x_ifn c33 H
          have hd0 : AW l m_X0_doCounts (3 + (r + 1)) 0 0 (x_Ri q) 0 0 117 [some (.ref v0), some (.int v1), some (.int v2)] [] M := by
            skip
            exact t_X0_doCounts_117 l hκr H
          by_cases c56 : v1 = (2 : Int32)
          · exact x_tableIn (off := 116) 1 117 dX0_doCounts_1 (by rw [c56]; decide) (by rw [c56]; decide) (by rw [c56]; rfl) (by decide) hd0
          by_cases c57 : v1 = (3 : Int32)
          · exact x_tableIn (off := 116) 1 117 dX0_doCounts_1 (by rw [c57]; decide) (by rw [c57]; decide) (by rw [c57]; rfl) (by decide) hd0
          by_cases c58 : v1 = (5 : Int32)
          · exact x_tableIn (off := 116) 1 117 dX0_doCounts_1 (by rw [c58]; decide) (by rw [c58]; decide) (by rw [c58]; rfl) (by decide) hd0
          exact x_tableOut 1 117 dX0_doCounts_1 (by have n0 := lv_neT (a := 0) c1 (by decide); have n1 := lv_neT (a := 1) c7 (by decide); have n2 := lv_neT (a := 4) c20 (by decide); have n3 := lv_neT (a := 6) c33 (by decide); have n4 := lv_neT (a := 2) c56 (by decide); have n5 := lv_neT (a := 3) c57 (by decide); have n6 := lv_neT (a := 5) c58 (by decide); omega) (by decide) hd0

def f_X0_doCounts (r : Nat) : Nat → Int32 → Int32 → XM → Option (Int32 × XM) := x_rec (fun _ _ _ _ => none) bd_X0_doCounts r
theorem ct_X0_doCounts (l : Launch) : ∀ (r : Nat) {v0 : Nat} {v1 : Int32} {v2 : Int32} {M : XM} {q : Int32 × XM}, f_X0_doCounts r v0 v1 v2 M = some q → Ct l m_X0_doCounts (3 + r) 0 0 [(.ref v0), (.int v1), (.int v2)] M (x_Ri q) := by
  intro r
  induction r with
  | zero => intro v0 v1 v2 M q H; cases H
  | succ r ih => intro v0 v1 v2 M q H; exact x_met l m_X0_doCounts (3 + (r + 1)) 0 0 [(.ref v0), (.int v1), (.int v2)] M (x_Ri q) _ rfl rfl (Nat.le_of_ble_eq_true rfl) (t0_X0_doCounts l ih H)
theorem lk_994 : Cond.code yX0_doAsks cX0_doAsks 3 (some .int) ∈ x_TB := x_tb (k := 994) (by decide +kernel) rfl
theorem lk_991 : Cond.methodLink RX0 36 yX0_doAsks ∈ x_TB := x_tb (k := 991) (by decide +kernel) rfl
theorem lk_33 : Cond.selects RX0 yX0_doAsks yX0_doAsks ∈ x_TB := x_tb (k := 33) (by decide +kernel) rfl
theorem lk_993 : Cond.instanceMethod yX0_doAsks ∈ x_TB := x_tb (k := 993) (by decide +kernel) rfl
abbrev m_X0_doAsks : XU := (yX0_doAsks, cX0_doAsks, 3, (some .int))
theorem cn_X0_doAsks : m_X0_doAsks.1.cls ≠ "java/lang/invoke/MethodHandle" ∧ m_X0_doAsks.1.cls ≠ "java/lang/invoke/VarHandle" ∧ (parseMethodDescriptor m_X0_doAsks.1.desc).map (fun q => q.parameters.length) = some 2 := by decide +kernel
def f_X0_doAsks_c56 (κr : Nat → Int32 → Int32 → XM → Option (Int32 × XM)) (s0 : Int32) (M : XM) : Option (Int32 × XM) :=
  some ((s0 * (2 : Int32)), M)
set_option maxRecDepth 20000 in
set_option maxHeartbeats 4000000 in
theorem t_X0_doAsks_c56 (l : Launch) {r : Nat} {κr : Nat → Int32 → Int32 → XM → Option (Int32 × XM)} {s0 : Int32} {M : XM} {q : Int32 × XM} (hκr : ∀ {v0 : Nat} {v1 : Int32} {v2 : Int32} {M : XM} {q : Int32 × XM}, κr v0 v1 v2 M = some q → Ct l m_X0_doAsks (12 + r) 0 0 [(.ref v0), (.int v1), (.int v2)] M (x_Ri q)) (H : f_X0_doAsks_c56 κr s0 M = some q) : AW l m_X0_doAsks (12 + (r + 1)) 0 0 (x_Ri q) 0 0 59 [none, none, none] [(.int s0)] M := by
  unfold f_X0_doAsks_c56 at H
  refine x_iconst 59 (2 : Int32) dX0_doAsks_59 (by decide) ?_
  refine x_imul 60 dX0_doAsks_60 ?_
  cases H
  exact x_iret 61 dX0_doAsks_61 .int rfl rfl (Nat.le_of_ble_eq_true rfl) (Nat.le_of_ble_eq_true rfl) ⟨rfl, rfl⟩

def f_X0_doAsks_c47 (κr : Nat → Int32 → Int32 → XM → Option (Int32 × XM)) (v0 : Nat) (v2 : Int32) (M : XM) : Option (Int32 × XM) :=
  if x_tag M v0 = 0 + 10 then (x_bd (f_X0_doCounts 8 v0 (x_i M v0 2) v2 M) (f_X0_doAsks_c56 κr)) else none
set_option maxRecDepth 20000 in
set_option maxHeartbeats 4000000 in
theorem t_X0_doAsks_c47 (l : Launch) {r : Nat} {κr : Nat → Int32 → Int32 → XM → Option (Int32 × XM)} {v0 : Nat} {v2 : Int32} {M : XM} {q : Int32 × XM} (hκr : ∀ {v0 : Nat} {v1 : Int32} {v2 : Int32} {M : XM} {q : Int32 × XM}, κr v0 v1 v2 M = some q → Ct l m_X0_doAsks (12 + r) 0 0 [(.ref v0), (.int v1), (.int v2)] M (x_Ri q)) (H : f_X0_doAsks_c47 κr v0 v2 M = some q) : AW l m_X0_doAsks (12 + (r + 1)) 0 0 (x_Ri q) 0 0 50 [some (.ref v0), none, some (.int v2)] [] M := by
  unfold f_X0_doAsks_c47 at H
  refine x_aload_n 50 0 dX0_doAsks_50 rfl rfl ?_
  refine x_aload_n 51 0 dX0_doAsks_51 rfl rfl ?_
  obtain ⟨h6, H⟩ := x_ckp H
  refine x_getf 52 24 0 2 (.int (x_i M v0 2)) dX0_doAsks_52 lk_323 (by decide) (by decide) rfl (fun _ => rfl) h6 ?_
  refine x_iload_n 55 2 dX0_doAsks_55 rfl rfl ?_
  obtain ⟨r8, M7, e9, H⟩ := x_bd_of H
  refine x_callV 56 32 0 [(.int (x_i M v0 2)), (.int v2)] [] dX0_doAsks_56 (ct_X0_doCounts l 8 e9) lk_981 lk_983 lk_31 (by decide) h6 lk_92 lk_984 ⟨cn_X0_doCounts, (by omega), by decide⟩ rfl (Nat.le_of_ble_eq_true rfl) (Nat.le_of_ble_eq_true rfl) (Nat.le_of_ble_eq_true rfl) (x_ri ?_)
  exact x_wk (le_n (le_s (le_n le_0))) (t_X0_doAsks_c56 l hκr H)

def f_X0_doAsks_c74 (κr : Nat → Int32 → Int32 → XM → Option (Int32 × XM)) (s0 : Int32) (M : XM) : Option (Int32 × XM) :=
  some ((s0 * (3 : Int32)), M)
set_option maxRecDepth 20000 in
set_option maxHeartbeats 4000000 in
theorem t_X0_doAsks_c74 (l : Launch) {r : Nat} {κr : Nat → Int32 → Int32 → XM → Option (Int32 × XM)} {s0 : Int32} {M : XM} {q : Int32 × XM} (hκr : ∀ {v0 : Nat} {v1 : Int32} {v2 : Int32} {M : XM} {q : Int32 × XM}, κr v0 v1 v2 M = some q → Ct l m_X0_doAsks (12 + r) 0 0 [(.ref v0), (.int v1), (.int v2)] M (x_Ri q)) (H : f_X0_doAsks_c74 κr s0 M = some q) : AW l m_X0_doAsks (12 + (r + 1)) 0 0 (x_Ri q) 0 0 77 [none, none, none] [(.int s0)] M := by
  unfold f_X0_doAsks_c74 at H
  refine x_iconst 77 (3 : Int32) dX0_doAsks_77 (by decide) ?_
  refine x_imul 78 dX0_doAsks_78 ?_
  cases H
  exact x_iret 79 dX0_doAsks_79 .int rfl rfl (Nat.le_of_ble_eq_true rfl) (Nat.le_of_ble_eq_true rfl) ⟨rfl, rfl⟩

def f_X0_doAsks_c70 (κr : Nat → Int32 → Int32 → XM → Option (Int32 × XM)) (v2 : Int32) (s1 : Nat) (s0 : Int32) (M : XM) : Option (Int32 × XM) :=
  if x_tag M s1 = 0 + 10 then (x_bd (κr s1 s0 v2 M) (f_X0_doAsks_c74 κr)) else none
set_option maxRecDepth 20000 in
set_option maxHeartbeats 4000000 in
theorem t_X0_doAsks_c70 (l : Launch) {r : Nat} {κr : Nat → Int32 → Int32 → XM → Option (Int32 × XM)} {v2 : Int32} {s1 : Nat} {s0 : Int32} {M : XM} {q : Int32 × XM} (hκr : ∀ {v0 : Nat} {v1 : Int32} {v2 : Int32} {M : XM} {q : Int32 × XM}, κr v0 v1 v2 M = some q → Ct l m_X0_doAsks (12 + r) 0 0 [(.ref v0), (.int v1), (.int v2)] M (x_Ri q)) (H : f_X0_doAsks_c70 κr v2 s1 s0 M = some q) : AW l m_X0_doAsks (12 + (r + 1)) 0 0 (x_Ri q) 0 0 73 [none, none, some (.int v2)] [(.int s0), (.ref s1)] M := by
  unfold f_X0_doAsks_c70 at H
  refine x_iload_n 73 2 dX0_doAsks_73 rfl rfl ?_
  obtain ⟨h18, H⟩ := x_ckp H
  obtain ⟨r20, M19, e21, H⟩ := x_bd_of H
  refine x_callV 74 36 0 [(.int s0), (.int v2)] [] dX0_doAsks_74 (hκr e21) lk_991 lk_993 lk_33 (by decide) h18 lk_92 lk_994 ⟨cn_X0_doAsks, (by omega), by decide⟩ rfl (Nat.le_of_ble_eq_true rfl) (Nat.le_of_ble_eq_true rfl) (Nat.le_of_ble_eq_true rfl) (x_ri ?_)
  exact x_wk (le_s (le_s (le_n le_0))) (t_X0_doAsks_c74 l hκr H)

def f_X0_doAsks_c65 (κr : Nat → Int32 → Int32 → XM → Option (Int32 × XM)) (v0 : Nat) (v1 : Int32) (v2 : Int32) (M : XM) : Option (Int32 × XM) :=
  x_bd (f_X8_above v1 M) (f_X0_doAsks_c70 κr v2 v0)
set_option maxRecDepth 20000 in
set_option maxHeartbeats 4000000 in
theorem t_X0_doAsks_c65 (l : Launch) {r : Nat} {κr : Nat → Int32 → Int32 → XM → Option (Int32 × XM)} {v0 : Nat} {v1 : Int32} {v2 : Int32} {M : XM} {q : Int32 × XM} (hκr : ∀ {v0 : Nat} {v1 : Int32} {v2 : Int32} {M : XM} {q : Int32 × XM}, κr v0 v1 v2 M = some q → Ct l m_X0_doAsks (12 + r) 0 0 [(.ref v0), (.int v1), (.int v2)] M (x_Ri q)) (H : f_X0_doAsks_c65 κr v0 v1 v2 M = some q) : AW l m_X0_doAsks (12 + (r + 1)) 0 0 (x_Ri q) 0 0 68 [some (.ref v0), some (.int v1), some (.int v2)] [] M := by
  unfold f_X0_doAsks_c65 at H
  refine x_aload_n 68 0 dX0_doAsks_68 rfl rfl ?_
  refine x_iload_n 69 1 dX0_doAsks_69 rfl rfl ?_
  obtain ⟨r16, M15, e17, H⟩ := x_bd_of H
  refine x_callSN 70 46 [(.int v1)] [(.ref v0)] dX0_doAsks_70 (ct_X8_above l e17) (List.mem_of_getElem? (i := 13) rfl) lk_508 lk_85 lk_509 ⟨cn_X8_above, (by omega), by decide⟩ rfl (Nat.le_of_ble_eq_true rfl) (Nat.le_of_ble_eq_true rfl) (Nat.le_of_ble_eq_true rfl) (x_ri ?_)
  exact x_wk (le_n (le_n (le_s le_0))) (t_X0_doAsks_c70 l hκr H)

def f_X0_doAsks_c88 (κr : Nat → Int32 → Int32 → XM → Option (Int32 × XM)) (v2 : Int32) (s1 : Nat) (s0 : Int32) (M : XM) : Option (Int32 × XM) :=
  if x_tag M s1 = 0 + 10 then (x_bd (κr s1 s0 (v2 + (1 : Int32)) M) (fun r32 M31 => some (r32, M31))) else none
set_option maxRecDepth 20000 in
set_option maxHeartbeats 4000000 in
theorem t_X0_doAsks_c88 (l : Launch) {r : Nat} {κr : Nat → Int32 → Int32 → XM → Option (Int32 × XM)} {v2 : Int32} {s1 : Nat} {s0 : Int32} {M : XM} {q : Int32 × XM} (hκr : ∀ {v0 : Nat} {v1 : Int32} {v2 : Int32} {M : XM} {q : Int32 × XM}, κr v0 v1 v2 M = some q → Ct l m_X0_doAsks (12 + r) 0 0 [(.ref v0), (.int v1), (.int v2)] M (x_Ri q)) (H : f_X0_doAsks_c88 κr v2 s1 s0 M = some q) : AW l m_X0_doAsks (12 + (r + 1)) 0 0 (x_Ri q) 0 0 91 [none, none, some (.int v2)] [(.int s0), (.ref s1)] M := by
  unfold f_X0_doAsks_c88 at H
  refine x_iload_n 91 2 dX0_doAsks_91 rfl rfl ?_
  refine x_iconst 92 (1 : Int32) dX0_doAsks_92 (by decide) ?_
  refine x_iadd 93 dX0_doAsks_93 ?_
  obtain ⟨h30, H⟩ := x_ckp H
  obtain ⟨r32, M31, e33, H⟩ := x_bd_of H
  refine x_callV 94 36 0 [(.int s0), (.int (v2 + (1 : Int32)))] [] dX0_doAsks_94 (hκr e33) lk_991 lk_993 lk_33 (by decide) h30 lk_92 lk_994 ⟨cn_X0_doAsks, (by omega), by decide⟩ rfl (Nat.le_of_ble_eq_true rfl) (Nat.le_of_ble_eq_true rfl) (Nat.le_of_ble_eq_true rfl) (x_ri ?_)
  cases H
  exact x_iret 97 dX0_doAsks_97 .int rfl rfl (Nat.le_of_ble_eq_true rfl) (Nat.le_of_ble_eq_true rfl) ⟨rfl, rfl⟩

def f_X0_doAsks_c83 (κr : Nat → Int32 → Int32 → XM → Option (Int32 × XM)) (v0 : Nat) (v1 : Int32) (v2 : Int32) (M : XM) : Option (Int32 × XM) :=
  x_bd (f_X8_above v1 M) (f_X0_doAsks_c88 κr v2 v0)
set_option maxRecDepth 20000 in
set_option maxHeartbeats 4000000 in
theorem t_X0_doAsks_c83 (l : Launch) {r : Nat} {κr : Nat → Int32 → Int32 → XM → Option (Int32 × XM)} {v0 : Nat} {v1 : Int32} {v2 : Int32} {M : XM} {q : Int32 × XM} (hκr : ∀ {v0 : Nat} {v1 : Int32} {v2 : Int32} {M : XM} {q : Int32 × XM}, κr v0 v1 v2 M = some q → Ct l m_X0_doAsks (12 + r) 0 0 [(.ref v0), (.int v1), (.int v2)] M (x_Ri q)) (H : f_X0_doAsks_c83 κr v0 v1 v2 M = some q) : AW l m_X0_doAsks (12 + (r + 1)) 0 0 (x_Ri q) 0 0 86 [some (.ref v0), some (.int v1), some (.int v2)] [] M := by
  unfold f_X0_doAsks_c83 at H
  refine x_aload_n 86 0 dX0_doAsks_86 rfl rfl ?_
  refine x_iload_n 87 1 dX0_doAsks_87 rfl rfl ?_
  obtain ⟨r28, M27, e29, H⟩ := x_bd_of H
  refine x_callSN 88 46 [(.int v1)] [(.ref v0)] dX0_doAsks_88 (ct_X8_above l e29) (List.mem_of_getElem? (i := 13) rfl) lk_508 lk_85 lk_509 ⟨cn_X8_above, (by omega), by decide⟩ rfl (Nat.le_of_ble_eq_true rfl) (Nat.le_of_ble_eq_true rfl) (Nat.le_of_ble_eq_true rfl) (x_ri ?_)
  exact x_wk (le_n (le_n (le_s le_0))) (t_X0_doAsks_c88 l hκr H)

def f_X0_doAsks_c106 (κr : Nat → Int32 → Int32 → XM → Option (Int32 × XM)) (v0 : Nat) (v2 : Int32) (s1 : Nat) (s0 : Int32) (M : XM) : Option (Int32 × XM) :=
  if x_tag M v0 = 0 + 10 then (if x_tag M s1 = 0 + 10 then (x_bd (κr s1 s0 (v2 - (x_i M v0 4)) M) (fun r45 M44 => some (r45, M44))) else none) else none
set_option maxRecDepth 20000 in
set_option maxHeartbeats 4000000 in
theorem t_X0_doAsks_c106 (l : Launch) {r : Nat} {κr : Nat → Int32 → Int32 → XM → Option (Int32 × XM)} {v0 : Nat} {v2 : Int32} {s1 : Nat} {s0 : Int32} {M : XM} {q : Int32 × XM} (hκr : ∀ {v0 : Nat} {v1 : Int32} {v2 : Int32} {M : XM} {q : Int32 × XM}, κr v0 v1 v2 M = some q → Ct l m_X0_doAsks (12 + r) 0 0 [(.ref v0), (.int v1), (.int v2)] M (x_Ri q)) (H : f_X0_doAsks_c106 κr v0 v2 s1 s0 M = some q) : AW l m_X0_doAsks (12 + (r + 1)) 0 0 (x_Ri q) 0 0 109 [some (.ref v0), none, some (.int v2)] [(.int s0), (.ref s1)] M := by
  unfold f_X0_doAsks_c106 at H
  refine x_iload_n 109 2 dX0_doAsks_109 rfl rfl ?_
  refine x_aload_n 110 0 dX0_doAsks_110 rfl rfl ?_
  obtain ⟨h42, H⟩ := x_ckp H
  refine x_getf 111 31 0 4 (.int (x_i M v0 4)) dX0_doAsks_111 lk_325 (by decide) (by decide) rfl (fun _ => rfl) h42 ?_
  refine x_isub 114 dX0_doAsks_114 ?_
  obtain ⟨h43, H⟩ := x_ckp H
  obtain ⟨r45, M44, e46, H⟩ := x_bd_of H
  refine x_callV 115 36 0 [(.int s0), (.int (v2 - (x_i M v0 4)))] [] dX0_doAsks_115 (hκr e46) lk_991 lk_993 lk_33 (by decide) h43 lk_92 lk_994 ⟨cn_X0_doAsks, (by omega), by decide⟩ rfl (Nat.le_of_ble_eq_true rfl) (Nat.le_of_ble_eq_true rfl) (Nat.le_of_ble_eq_true rfl) (x_ri ?_)
  cases H
  exact x_iret 118 dX0_doAsks_118 .int rfl rfl (Nat.le_of_ble_eq_true rfl) (Nat.le_of_ble_eq_true rfl) ⟨rfl, rfl⟩

def f_X0_doAsks_c101 (κr : Nat → Int32 → Int32 → XM → Option (Int32 × XM)) (v0 : Nat) (v1 : Int32) (v2 : Int32) (M : XM) : Option (Int32 × XM) :=
  x_bd (f_X8_above v1 M) (f_X0_doAsks_c106 κr v0 v2 v0)
set_option maxRecDepth 20000 in
set_option maxHeartbeats 4000000 in
theorem t_X0_doAsks_c101 (l : Launch) {r : Nat} {κr : Nat → Int32 → Int32 → XM → Option (Int32 × XM)} {v0 : Nat} {v1 : Int32} {v2 : Int32} {M : XM} {q : Int32 × XM} (hκr : ∀ {v0 : Nat} {v1 : Int32} {v2 : Int32} {M : XM} {q : Int32 × XM}, κr v0 v1 v2 M = some q → Ct l m_X0_doAsks (12 + r) 0 0 [(.ref v0), (.int v1), (.int v2)] M (x_Ri q)) (H : f_X0_doAsks_c101 κr v0 v1 v2 M = some q) : AW l m_X0_doAsks (12 + (r + 1)) 0 0 (x_Ri q) 0 0 104 [some (.ref v0), some (.int v1), some (.int v2)] [] M := by
  unfold f_X0_doAsks_c101 at H
  refine x_aload_n 104 0 dX0_doAsks_104 rfl rfl ?_
  refine x_iload_n 105 1 dX0_doAsks_105 rfl rfl ?_
  obtain ⟨r40, M39, e41, H⟩ := x_bd_of H
  refine x_callSN 106 46 [(.int v1)] [(.ref v0)] dX0_doAsks_106 (ct_X8_above l e41) (List.mem_of_getElem? (i := 13) rfl) lk_508 lk_85 lk_509 ⟨cn_X8_above, (by omega), by decide⟩ rfl (Nat.le_of_ble_eq_true rfl) (Nat.le_of_ble_eq_true rfl) (Nat.le_of_ble_eq_true rfl) (x_ri ?_)
  exact x_wk (le_s (le_n (le_s le_0))) (t_X0_doAsks_c106 l hκr H)

def f_X0_doAsks_c128 (κr : Nat → Int32 → Int32 → XM → Option (Int32 × XM)) (v2 : Int32) (s1 : Nat) (s0 : Int32) (M : XM) : Option (Int32 × XM) :=
  if x_tag M s1 = 0 + 10 then (x_bd (κr s1 s0 v2 M) (fun r56 M55 => some (r56, M55))) else none
set_option maxRecDepth 20000 in
set_option maxHeartbeats 4000000 in
theorem t_X0_doAsks_c128 (l : Launch) {r : Nat} {κr : Nat → Int32 → Int32 → XM → Option (Int32 × XM)} {v2 : Int32} {s1 : Nat} {s0 : Int32} {M : XM} {q : Int32 × XM} (hκr : ∀ {v0 : Nat} {v1 : Int32} {v2 : Int32} {M : XM} {q : Int32 × XM}, κr v0 v1 v2 M = some q → Ct l m_X0_doAsks (12 + r) 0 0 [(.ref v0), (.int v1), (.int v2)] M (x_Ri q)) (H : f_X0_doAsks_c128 κr v2 s1 s0 M = some q) : AW l m_X0_doAsks (12 + (r + 1)) 0 0 (x_Ri q) 0 0 131 [none, none, some (.int v2)] [(.int s0), (.ref s1)] M := by
  unfold f_X0_doAsks_c128 at H
  refine x_iload_n 131 2 dX0_doAsks_131 rfl rfl ?_
  obtain ⟨h54, H⟩ := x_ckp H
  obtain ⟨r56, M55, e57, H⟩ := x_bd_of H
  refine x_callV 132 36 0 [(.int s0), (.int v2)] [] dX0_doAsks_132 (hκr e57) lk_991 lk_993 lk_33 (by decide) h54 lk_92 lk_994 ⟨cn_X0_doAsks, (by omega), by decide⟩ rfl (Nat.le_of_ble_eq_true rfl) (Nat.le_of_ble_eq_true rfl) (Nat.le_of_ble_eq_true rfl) (x_ri ?_)
  refine x_goto 135 139 dX0_doAsks_135 (by decide) ?_
  cases H
  exact x_iret 139 dX0_doAsks_139 .int rfl rfl (Nat.le_of_ble_eq_true rfl) (Nat.le_of_ble_eq_true rfl) ⟨rfl, rfl⟩

def f_X0_doAsks_c120 (κr : Nat → Int32 → Int32 → XM → Option (Int32 × XM)) (v0 : Nat) (v1 : Int32) (v2 : Int32) (s0 : Int32) (M : XM) : Option (Int32 × XM) :=
  if s0 = 0 then (some ((0 : Int32), M)) else (x_bd (f_X8_above v1 M) (f_X0_doAsks_c128 κr v2 v0))
set_option maxRecDepth 20000 in
set_option maxHeartbeats 4000000 in
theorem t_X0_doAsks_c120 (l : Launch) {r : Nat} {κr : Nat → Int32 → Int32 → XM → Option (Int32 × XM)} {v0 : Nat} {v1 : Int32} {v2 : Int32} {s0 : Int32} {M : XM} {q : Int32 × XM} (hκr : ∀ {v0 : Nat} {v1 : Int32} {v2 : Int32} {M : XM} {q : Int32 × XM}, κr v0 v1 v2 M = some q → Ct l m_X0_doAsks (12 + r) 0 0 [(.ref v0), (.int v1), (.int v2)] M (x_Ri q)) (H : f_X0_doAsks_c120 κr v0 v1 v2 s0 M = some q) : AW l m_X0_doAsks (12 + (r + 1)) 0 0 (x_Ri q) 0 0 123 [some (.ref v0), some (.int v1), some (.int v2)] [(.int s0)] M := by
  unfold f_X0_doAsks_c120 at H
  refine x_if_eq 123 138 dX0_doAsks_123 (by decide) (fun c50 => ?_) (fun c50 => ?_)
  · replace H := x_ifp c50 H
    refine x_iconst 138 (0 : Int32) dX0_doAsks_138 (by decide) ?_
    cases H
    exact x_iret 139 dX0_doAsks_139 .int rfl rfl (Nat.le_of_ble_eq_true rfl) (Nat.le_of_ble_eq_true rfl) ⟨rfl, rfl⟩
  · replace H := x_ifn c50 H
    refine x_aload_n 126 0 dX0_doAsks_126 rfl rfl ?_
    refine x_iload_n 127 1 dX0_doAsks_127 rfl rfl ?_
    obtain ⟨r52, M51, e53, H⟩ := x_bd_of H
    refine x_callSN 128 46 [(.int v1)] [(.ref v0)] dX0_doAsks_128 (ct_X8_above l e53) (List.mem_of_getElem? (i := 13) rfl) lk_508 lk_85 lk_509 ⟨cn_X8_above, (by omega), by decide⟩ rfl (Nat.le_of_ble_eq_true rfl) (Nat.le_of_ble_eq_true rfl) (Nat.le_of_ble_eq_true rfl) (x_ri ?_)
    exact x_wk (le_n (le_n (le_s le_0))) (t_X0_doAsks_c128 l hκr H)

def f_X0_doAsks_119 (κr : Nat → Int32 → Int32 → XM → Option (Int32 × XM)) (v0 : Nat) (v1 : Int32) (v2 : Int32) (M : XM) : Option (Int32 × XM) :=
  x_bd (f_X8_isKind v1 M) (f_X0_doAsks_c120 κr v0 v1 v2)
set_option maxRecDepth 20000 in
set_option maxHeartbeats 4000000 in
theorem t_X0_doAsks_119 (l : Launch) {r : Nat} {κr : Nat → Int32 → Int32 → XM → Option (Int32 × XM)} {v0 : Nat} {v1 : Int32} {v2 : Int32} {M : XM} {q : Int32 × XM} (hκr : ∀ {v0 : Nat} {v1 : Int32} {v2 : Int32} {M : XM} {q : Int32 × XM}, κr v0 v1 v2 M = some q → Ct l m_X0_doAsks (12 + r) 0 0 [(.ref v0), (.int v1), (.int v2)] M (x_Ri q)) (H : f_X0_doAsks_119 κr v0 v1 v2 M = some q) : AW l m_X0_doAsks (12 + (r + 1)) 0 0 (x_Ri q) 0 0 119 [some (.ref v0), some (.int v1), some (.int v2)] [] M := by
  unfold f_X0_doAsks_119 at H
  refine x_iload_n 119 1 dX0_doAsks_119 rfl rfl ?_
  obtain ⟨r48, M47, e49, H⟩ := x_bd_of H
  refine x_callSN 120 50 [(.int v1)] [] dX0_doAsks_120 (ct_X8_isKind l e49) (List.mem_of_getElem? (i := 14) rfl) lk_500 lk_85 lk_501 ⟨cn_X8_isKind, (by omega), by decide⟩ rfl (Nat.le_of_ble_eq_true rfl) (Nat.le_of_ble_eq_true rfl) (Nat.le_of_ble_eq_true rfl) (x_ri ?_)
  exact t_X0_doAsks_c120 l hκr H

def bd_X0_doAsks (κr : Nat → Int32 → Int32 → XM → Option (Int32 × XM)) (v0 : Nat) (v1 : Int32) (v2 : Int32) (M : XM) : Option (Int32 × XM) :=
  if v1 = (0 : Int32) then (if x_tag M v0 = 0 + 10 then (x_bv (f_X0_begin v0 (11 : Int32) M) (f_X0_doAsks_c47 κr v0 v2)) else none) else if v1 = (2 : Int32) then (if x_tag M v0 = 0 + 10 then (x_bv (f_X0_begin v0 (30 : Int32) M) (f_X0_doAsks_c65 κr v0 v1 v2)) else none) else if v1 = (3 : Int32) then (if x_tag M v0 = 0 + 10 then (x_bv (f_X0_begin v0 (40 : Int32) M) (f_X0_doAsks_c83 κr v0 v1 v2)) else none) else if v1 = (6 : Int32) then (if x_tag M v0 = 0 + 10 then (x_bv (f_X0_begin v0 (71 : Int32) M) (f_X0_doAsks_c101 κr v0 v1 v2)) else none) else f_X0_doAsks_119 κr v0 v1 v2 M
set_option maxRecDepth 20000 in
set_option maxHeartbeats 4000000 in
theorem t0_X0_doAsks (l : Launch) {r : Nat} {κr : Nat → Int32 → Int32 → XM → Option (Int32 × XM)} {v0 : Nat} {v1 : Int32} {v2 : Int32} {M : XM} {q : Int32 × XM} (hκr : ∀ {v0 : Nat} {v1 : Int32} {v2 : Int32} {M : XM} {q : Int32 × XM}, κr v0 v1 v2 M = some q → Ct l m_X0_doAsks (12 + r) 0 0 [(.ref v0), (.int v1), (.int v2)] M (x_Ri q)) (H : bd_X0_doAsks κr v0 v1 v2 M = some q) : AW l m_X0_doAsks (12 + (r + 1)) 0 0 (x_Ri q) 0 0 0 [some (.ref v0), some (.int v1), some (.int v2)] [] M := by
  unfold bd_X0_doAsks at H
  refine x_iload_n 0 1 dX0_doAsks_0 rfl rfl ?_
  by_cases c1 : v1 = (0 : Int32)
  · replace H := x_ifp c1 H
    refine x_tableIn (off := 43) 1 44 dX0_doAsks_1 (by rw [c1]; decide) (by rw [c1]; decide) (by rw [c1]; rfl) (by decide) ?_
    refine x_aload_n 44 0 dX0_doAsks_44 rfl rfl ?_
    refine x_bipush 45 (11 : Int32) dX0_doAsks_45 (by decide) ?_
    obtain ⟨h2, H⟩ := x_ckp H
    obtain ⟨M3, e5, H⟩ := x_bv_of H
    refine x_callV 47 42 0 [(.int (11 : Int32))] [] dX0_doAsks_47 (ct_X0_begin l e5) lk_985 lk_987 lk_32 (by decide) h2 lk_92 lk_988 ⟨cn_X0_begin, (by omega), by decide⟩ rfl (Nat.le_of_ble_eq_true rfl) (Nat.le_of_ble_eq_true rfl) (Nat.le_of_ble_eq_true rfl) (x_rv ?_)
    exact x_wk (le_s (le_n (le_s le_0))) (t_X0_doAsks_c47 l hκr H)
  · replace H := x_ifn c1 H
    by_cases c10 : v1 = (2 : Int32)
    · replace H := x_ifp c10 H
      refine x_tableIn (off := 61) 1 62 dX0_doAsks_1 (by rw [c10]; decide) (by rw [c10]; decide) (by rw [c10]; rfl) (by decide) ?_
      refine x_aload_n 62 0 dX0_doAsks_62 rfl rfl ?_
      refine x_bipush 63 (30 : Int32) dX0_doAsks_63 (by decide) ?_
      obtain ⟨h11, H⟩ := x_ckp H
      obtain ⟨M12, e14, H⟩ := x_bv_of H
      refine x_callV 65 42 0 [(.int (30 : Int32))] [] dX0_doAsks_65 (ct_X0_begin l e14) lk_985 lk_987 lk_32 (by decide) h11 lk_92 lk_988 ⟨cn_X0_begin, (by omega), by decide⟩ rfl (Nat.le_of_ble_eq_true rfl) (Nat.le_of_ble_eq_true rfl) (Nat.le_of_ble_eq_true rfl) (x_rv ?_)
      exact t_X0_doAsks_c65 l hκr H
    · replace H := x_ifn c10 H
      by_cases c22 : v1 = (3 : Int32)
      · replace H := x_ifp c22 H
        refine x_tableIn (off := 79) 1 80 dX0_doAsks_1 (by rw [c22]; decide) (by rw [c22]; decide) (by rw [c22]; rfl) (by decide) ?_
        refine x_aload_n 80 0 dX0_doAsks_80 rfl rfl ?_
        refine x_bipush 81 (40 : Int32) dX0_doAsks_81 (by decide) ?_
        obtain ⟨h23, H⟩ := x_ckp H
        obtain ⟨M24, e26, H⟩ := x_bv_of H
        refine x_callV 83 42 0 [(.int (40 : Int32))] [] dX0_doAsks_83 (ct_X0_begin l e26) lk_985 lk_987 lk_32 (by decide) h23 lk_92 lk_988 ⟨cn_X0_begin, (by omega), by decide⟩ rfl (Nat.le_of_ble_eq_true rfl) (Nat.le_of_ble_eq_true rfl) (Nat.le_of_ble_eq_true rfl) (x_rv ?_)
        exact t_X0_doAsks_c83 l hκr H
      · replace H := x_ifn c22 H
        by_cases c34 : v1 = (6 : Int32)
        · replace H := x_ifp c34 H
          refine x_tableIn (off := 97) 1 98 dX0_doAsks_1 (by rw [c34]; decide) (by rw [c34]; decide) (by rw [c34]; rfl) (by decide) ?_
          refine x_aload_n 98 0 dX0_doAsks_98 rfl rfl ?_
          refine x_bipush 99 (71 : Int32) dX0_doAsks_99 (by decide) ?_
          obtain ⟨h35, H⟩ := x_ckp H
          obtain ⟨M36, e38, H⟩ := x_bv_of H
          refine x_callV 101 42 0 [(.int (71 : Int32))] [] dX0_doAsks_101 (ct_X0_begin l e38) lk_985 lk_987 lk_32 (by decide) h35 lk_92 lk_988 ⟨cn_X0_begin, (by omega), by decide⟩ rfl (Nat.le_of_ble_eq_true rfl) (Nat.le_of_ble_eq_true rfl) (Nat.le_of_ble_eq_true rfl) (x_rv ?_)
          exact t_X0_doAsks_c101 l hκr H
        · replace H := x_ifn c34 H
          have hd0 : AW l m_X0_doAsks (12 + (r + 1)) 0 0 (x_Ri q) 0 0 119 [some (.ref v0), some (.int v1), some (.int v2)] [] M := by
            skip
            exact t_X0_doAsks_119 l hκr H
          by_cases c58 : v1 = (1 : Int32)
          · exact x_tableIn (off := 118) 1 119 dX0_doAsks_1 (by rw [c58]; decide) (by rw [c58]; decide) (by rw [c58]; rfl) (by decide) hd0
          by_cases c59 : v1 = (4 : Int32)
          · exact x_tableIn (off := 118) 1 119 dX0_doAsks_1 (by rw [c59]; decide) (by rw [c59]; decide) (by rw [c59]; rfl) (by decide) hd0
          by_cases c60 : v1 = (5 : Int32)
          · exact x_tableIn (off := 118) 1 119 dX0_doAsks_1 (by rw [c60]; decide) (by rw [c60]; decide) (by rw [c60]; rfl) (by decide) hd0
          exact x_tableOut 1 119 dX0_doAsks_1 (by have n0 := lv_neT (a := 0) c1 (by decide); have n1 := lv_neT (a := 2) c10 (by decide); have n2 := lv_neT (a := 3) c22 (by decide); have n3 := lv_neT (a := 6) c34 (by decide); have n4 := lv_neT (a := 1) c58 (by decide); have n5 := lv_neT (a := 4) c59 (by decide); have n6 := lv_neT (a := 5) c60 (by decide); omega) (by decide) hd0

def f_X0_doAsks (r : Nat) : Nat → Int32 → Int32 → XM → Option (Int32 × XM) := x_rec (fun _ _ _ _ => none) bd_X0_doAsks r
theorem ct_X0_doAsks (l : Launch) : ∀ (r : Nat) {v0 : Nat} {v1 : Int32} {v2 : Int32} {M : XM} {q : Int32 × XM}, f_X0_doAsks r v0 v1 v2 M = some q → Ct l m_X0_doAsks (12 + r) 0 0 [(.ref v0), (.int v1), (.int v2)] M (x_Ri q) := by
  intro r
  induction r with
  | zero => intro v0 v1 v2 M q H; cases H
  | succ r ih => intro v0 v1 v2 M q H; exact x_met l m_X0_doAsks (12 + (r + 1)) 0 0 [(.ref v0), (.int v1), (.int v2)] M (x_Ri q) _ rfl rfl (Nat.le_of_ble_eq_true rfl) (t0_X0_doAsks l ih H)
abbrev m_X0_endCounter : XU := (yX0_endCounter, cX0_endCounter, 3, (some .int))
theorem cn_X0_endCounter : m_X0_endCounter.1.cls ≠ "java/lang/invoke/MethodHandle" ∧ m_X0_endCounter.1.cls ≠ "java/lang/invoke/VarHandle" ∧ (parseMethodDescriptor m_X0_endCounter.1.desc).map (fun q => q.parameters.length) = some 1 := by decide +kernel
def f_X0_endCounter_c22 (s1 : Int32) (s0 : Int32) (M : XM) : Option (Int32 × XM) :=
  some ((s1 ^^^ s0), M)
set_option maxRecDepth 20000 in
set_option maxHeartbeats 4000000 in
theorem t_X0_endCounter_c22 (l : Launch) {s1 : Int32} {s0 : Int32} {M : XM} {q : Int32 × XM} (H : f_X0_endCounter_c22 s1 s0 M = some q) : AW l m_X0_endCounter 21 0 0 (x_Ri q) 0 0 25 [none, none, none] [(.int s0), (.int s1)] M := by
  unfold f_X0_endCounter_c22 at H
  refine x_ixor 25 dX0_endCounter_25 ?_
  cases H
  exact x_iret 26 dX0_endCounter_26 .int rfl rfl (Nat.le_of_ble_eq_true rfl) (Nat.le_of_ble_eq_true rfl) ⟨rfl, rfl⟩

def f_X0_endCounter_c6 (v0 : Nat) (v1 : Int32) (s0 : Int32) (M : XM) : Option (Int32 × XM) :=
  if x_tag M v0 = 0 + 10 then (x_bd (f_X0_doCounts 8 v0 (x_i M v0 2) (v1 - (x_i M v0 4)) M) (f_X0_endCounter_c22 s0)) else none
set_option maxRecDepth 20000 in
set_option maxHeartbeats 4000000 in
theorem t_X0_endCounter_c6 (l : Launch) {v0 : Nat} {v1 : Int32} {s0 : Int32} {M : XM} {q : Int32 × XM} (H : f_X0_endCounter_c6 v0 v1 s0 M = some q) : AW l m_X0_endCounter 21 0 0 (x_Ri q) 0 0 9 [some (.ref v0), some (.int v1), none] [(.int s0)] M := by
  unfold f_X0_endCounter_c6 at H
  refine x_istore_n 9 2 [some (.ref v0), some (.int v1), some (.int s0)] dX0_endCounter_9 rfl rfl (Nat.le_of_ble_eq_true rfl) rfl ?_
  refine x_iload_n 10 2 dX0_endCounter_10 rfl rfl ?_
  refine x_aload_n 11 0 dX0_endCounter_11 rfl rfl ?_
  refine x_aload_n 12 0 dX0_endCounter_12 rfl rfl ?_
  obtain ⟨h5, H⟩ := x_ckp H
  refine x_getf 13 24 0 2 (.int (x_i M v0 2)) dX0_endCounter_13 lk_323 (by decide) (by decide) rfl (fun _ => rfl) h5 ?_
  refine x_iload_n 16 1 dX0_endCounter_16 rfl rfl ?_
  refine x_aload_n 17 0 dX0_endCounter_17 rfl rfl ?_
  refine x_getf 18 31 0 4 (.int (x_i M v0 4)) dX0_endCounter_18 lk_325 (by decide) (by decide) rfl (fun _ => rfl) h5 ?_
  refine x_isub 21 dX0_endCounter_21 ?_
  obtain ⟨r7, M6, e8, H⟩ := x_bd_of H
  refine x_callV 22 32 0 [(.int (x_i M v0 2)), (.int (v1 - (x_i M v0 4)))] [(.int s0)] dX0_endCounter_22 (ct_X0_doCounts l 8 e8) lk_981 lk_983 lk_31 (by decide) h5 lk_92 lk_984 ⟨cn_X0_doCounts, (by decide), by decide⟩ rfl (Nat.le_of_ble_eq_true rfl) (Nat.le_of_ble_eq_true rfl) (Nat.le_of_ble_eq_true rfl) (x_ri ?_)
  exact x_wk (le_n (le_n (le_n le_0))) (t_X0_endCounter_c22 l H)

def f_X0_endCounter (v0 : Nat) (v1 : Int32) (M : XM) : Option (Int32 × XM) :=
  if x_tag M v0 = 0 + 10 then (x_bd (f_X0_doAsks 8 v0 (x_i M v0 2) v1 M) (f_X0_endCounter_c6 v0 v1)) else none
set_option maxRecDepth 20000 in
set_option maxHeartbeats 4000000 in
theorem t_X0_endCounter (l : Launch) {v0 : Nat} {v1 : Int32} {M : XM} {q : Int32 × XM} (H : f_X0_endCounter v0 v1 M = some q) : AW l m_X0_endCounter 21 0 0 (x_Ri q) 0 0 0 [some (.ref v0), some (.int v1), none] [] M := by
  unfold f_X0_endCounter at H
  refine x_aload_n 0 0 dX0_endCounter_0 rfl rfl ?_
  refine x_aload_n 1 0 dX0_endCounter_1 rfl rfl ?_
  obtain ⟨h1, H⟩ := x_ckp H
  refine x_getf 2 24 0 2 (.int (x_i M v0 2)) dX0_endCounter_2 lk_323 (by decide) (by decide) rfl (fun _ => rfl) h1 ?_
  refine x_iload_n 5 1 dX0_endCounter_5 rfl rfl ?_
  obtain ⟨r3, M2, e4, H⟩ := x_bd_of H
  refine x_callV 6 36 0 [(.int (x_i M v0 2)), (.int v1)] [] dX0_endCounter_6 (ct_X0_doAsks l 8 e4) lk_991 lk_993 lk_33 (by decide) h1 lk_92 lk_994 ⟨cn_X0_doAsks, (by decide), by decide⟩ rfl (Nat.le_of_ble_eq_true rfl) (Nat.le_of_ble_eq_true rfl) (Nat.le_of_ble_eq_true rfl) (x_ri ?_)
  exact t_X0_endCounter_c6 l H

theorem ct_X0_endCounter (l : Launch) {v0 : Nat} {v1 : Int32} {M : XM} {q : Int32 × XM} (H : f_X0_endCounter v0 v1 M = some q) : Ct l m_X0_endCounter 21 0 0 [(.ref v0), (.int v1)] M (x_Ri q) := x_met l m_X0_endCounter 21 0 0 [(.ref v0), (.int v1)] M (x_Ri q) _ rfl rfl (Nat.le_of_ble_eq_true rfl) (t_X0_endCounter l H)
theorem lk_1002 : Cond.code yX0_endCounter cX0_endCounter 3 (some .int) ∈ x_TB := x_tb (k := 1002) (by decide +kernel) rfl
theorem lk_999 : Cond.methodLink RX0 54 yX0_endCounter ∈ x_TB := x_tb (k := 999) (by decide +kernel) rfl
theorem lk_35 : Cond.selects RX0 yX0_endCounter yX0_endCounter ∈ x_TB := x_tb (k := 35) (by decide +kernel) rfl
theorem lk_1001 : Cond.instanceMethod yX0_endCounter ∈ x_TB := x_tb (k := 1001) (by decide +kernel) rfl
theorem lk_998 : Cond.code yX0_doEnds cX0_doEnds 3 (some .int) ∈ x_TB := x_tb (k := 998) (by decide +kernel) rfl
theorem lk_995 : Cond.methodLink RX0 39 yX0_doEnds ∈ x_TB := x_tb (k := 995) (by decide +kernel) rfl
theorem lk_34 : Cond.selects RX0 yX0_doEnds yX0_doEnds ∈ x_TB := x_tb (k := 34) (by decide +kernel) rfl
theorem lk_997 : Cond.instanceMethod yX0_doEnds ∈ x_TB := x_tb (k := 997) (by decide +kernel) rfl
abbrev m_X0_doEnds : XU := (yX0_doEnds, cX0_doEnds, 3, (some .int))
theorem cn_X0_doEnds : m_X0_doEnds.1.cls ≠ "java/lang/invoke/MethodHandle" ∧ m_X0_doEnds.1.cls ≠ "java/lang/invoke/VarHandle" ∧ (parseMethodDescriptor m_X0_doEnds.1.desc).map (fun q => q.parameters.length) = some 2 := by decide +kernel
def f_X0_doEnds_c39 (κr : Nat → Int32 → Int32 → XM → Option (Int32 × XM)) (v0 : Nat) (v2 : Int32) (M : XM) : Option (Int32 × XM) :=
  if x_tag M v0 = 0 + 10 then (x_bd (f_X0_endCounter v0 v2 M) (fun r8 M7 => some (r8, M7))) else none
set_option maxRecDepth 20000 in
set_option maxHeartbeats 4000000 in
theorem t_X0_doEnds_c39 (l : Launch) {r : Nat} {κr : Nat → Int32 → Int32 → XM → Option (Int32 × XM)} {v0 : Nat} {v2 : Int32} {M : XM} {q : Int32 × XM} (hκr : ∀ {v0 : Nat} {v1 : Int32} {v2 : Int32} {M : XM} {q : Int32 × XM}, κr v0 v1 v2 M = some q → Ct l m_X0_doEnds (22 + r) 0 0 [(.ref v0), (.int v1), (.int v2)] M (x_Ri q)) (H : f_X0_doEnds_c39 κr v0 v2 M = some q) : AW l m_X0_doEnds (22 + (r + 1)) 0 0 (x_Ri q) 0 0 42 [some (.ref v0), none, some (.int v2)] [] M := by
  unfold f_X0_doEnds_c39 at H
  refine x_aload_n 42 0 dX0_doEnds_42 rfl rfl ?_
  refine x_iload_n 43 2 dX0_doEnds_43 rfl rfl ?_
  obtain ⟨h6, H⟩ := x_ckp H
  obtain ⟨r8, M7, e9, H⟩ := x_bd_of H
  refine x_callV 44 54 0 [(.int v2)] [] dX0_doEnds_44 (ct_X0_endCounter l e9) lk_999 lk_1001 lk_35 (by decide) h6 lk_92 lk_1002 ⟨cn_X0_endCounter, (by omega), by decide⟩ rfl (Nat.le_of_ble_eq_true rfl) (Nat.le_of_ble_eq_true rfl) (Nat.le_of_ble_eq_true rfl) (x_ri ?_)
  cases H
  exact x_iret 47 dX0_doEnds_47 .int rfl rfl (Nat.le_of_ble_eq_true rfl) (Nat.le_of_ble_eq_true rfl) ⟨rfl, rfl⟩

def f_X0_doEnds_c56 (κr : Nat → Int32 → Int32 → XM → Option (Int32 × XM)) (v2 : Int32) (s1 : Nat) (s0 : Int32) (M : XM) : Option (Int32 × XM) :=
  if x_tag M s1 = 0 + 10 then (x_bd (κr s1 s0 v2 M) (fun r20 M19 => some ((-r20), M19))) else none
set_option maxRecDepth 20000 in
set_option maxHeartbeats 4000000 in
theorem t_X0_doEnds_c56 (l : Launch) {r : Nat} {κr : Nat → Int32 → Int32 → XM → Option (Int32 × XM)} {v2 : Int32} {s1 : Nat} {s0 : Int32} {M : XM} {q : Int32 × XM} (hκr : ∀ {v0 : Nat} {v1 : Int32} {v2 : Int32} {M : XM} {q : Int32 × XM}, κr v0 v1 v2 M = some q → Ct l m_X0_doEnds (22 + r) 0 0 [(.ref v0), (.int v1), (.int v2)] M (x_Ri q)) (H : f_X0_doEnds_c56 κr v2 s1 s0 M = some q) : AW l m_X0_doEnds (22 + (r + 1)) 0 0 (x_Ri q) 0 0 59 [none, none, some (.int v2)] [(.int s0), (.ref s1)] M := by
  unfold f_X0_doEnds_c56 at H
  refine x_iload_n 59 2 dX0_doEnds_59 rfl rfl ?_
  obtain ⟨h18, H⟩ := x_ckp H
  obtain ⟨r20, M19, e21, H⟩ := x_bd_of H
  refine x_callV 60 39 0 [(.int s0), (.int v2)] [] dX0_doEnds_60 (hκr e21) lk_995 lk_997 lk_34 (by decide) h18 lk_92 lk_998 ⟨cn_X0_doEnds, (by omega), by decide⟩ rfl (Nat.le_of_ble_eq_true rfl) (Nat.le_of_ble_eq_true rfl) (Nat.le_of_ble_eq_true rfl) (x_ri ?_)
  refine x_ineg 63 dX0_doEnds_63 ?_
  cases H
  exact x_iret 64 dX0_doEnds_64 .int rfl rfl (Nat.le_of_ble_eq_true rfl) (Nat.le_of_ble_eq_true rfl) ⟨rfl, rfl⟩

def f_X0_doEnds_c51 (κr : Nat → Int32 → Int32 → XM → Option (Int32 × XM)) (v0 : Nat) (v1 : Int32) (v2 : Int32) (M : XM) : Option (Int32 × XM) :=
  x_bd (f_X8_above v1 M) (f_X0_doEnds_c56 κr v2 v0)
set_option maxRecDepth 20000 in
set_option maxHeartbeats 4000000 in
theorem t_X0_doEnds_c51 (l : Launch) {r : Nat} {κr : Nat → Int32 → Int32 → XM → Option (Int32 × XM)} {v0 : Nat} {v1 : Int32} {v2 : Int32} {M : XM} {q : Int32 × XM} (hκr : ∀ {v0 : Nat} {v1 : Int32} {v2 : Int32} {M : XM} {q : Int32 × XM}, κr v0 v1 v2 M = some q → Ct l m_X0_doEnds (22 + r) 0 0 [(.ref v0), (.int v1), (.int v2)] M (x_Ri q)) (H : f_X0_doEnds_c51 κr v0 v1 v2 M = some q) : AW l m_X0_doEnds (22 + (r + 1)) 0 0 (x_Ri q) 0 0 54 [some (.ref v0), some (.int v1), some (.int v2)] [] M := by
  unfold f_X0_doEnds_c51 at H
  refine x_aload_n 54 0 dX0_doEnds_54 rfl rfl ?_
  refine x_iload_n 55 1 dX0_doEnds_55 rfl rfl ?_
  obtain ⟨r16, M15, e17, H⟩ := x_bd_of H
  refine x_callSN 56 46 [(.int v1)] [(.ref v0)] dX0_doEnds_56 (ct_X8_above l e17) (List.mem_of_getElem? (i := 13) rfl) lk_508 lk_85 lk_509 ⟨cn_X8_above, (by omega), by decide⟩ rfl (Nat.le_of_ble_eq_true rfl) (Nat.le_of_ble_eq_true rfl) (Nat.le_of_ble_eq_true rfl) (x_ri ?_)
  exact x_wk (le_n (le_n (le_s le_0))) (t_X0_doEnds_c56 l hκr H)

def f_X0_doEnds_c77 (κr : Nat → Int32 → Int32 → XM → Option (Int32 × XM)) (s0 : Int32) (M : XM) : Option (Int32 × XM) :=
  some ((s0 ^^^ (5 : Int32)), M)
set_option maxRecDepth 20000 in
set_option maxHeartbeats 4000000 in
theorem t_X0_doEnds_c77 (l : Launch) {r : Nat} {κr : Nat → Int32 → Int32 → XM → Option (Int32 × XM)} {s0 : Int32} {M : XM} {q : Int32 × XM} (hκr : ∀ {v0 : Nat} {v1 : Int32} {v2 : Int32} {M : XM} {q : Int32 × XM}, κr v0 v1 v2 M = some q → Ct l m_X0_doEnds (22 + r) 0 0 [(.ref v0), (.int v1), (.int v2)] M (x_Ri q)) (H : f_X0_doEnds_c77 κr s0 M = some q) : AW l m_X0_doEnds (22 + (r + 1)) 0 0 (x_Ri q) 0 0 80 [none, none, none] [(.int s0)] M := by
  unfold f_X0_doEnds_c77 at H
  refine x_iconst 80 (5 : Int32) dX0_doEnds_80 (by decide) ?_
  refine x_ixor 81 dX0_doEnds_81 ?_
  cases H
  exact x_iret 82 dX0_doEnds_82 .int rfl rfl (Nat.le_of_ble_eq_true rfl) (Nat.le_of_ble_eq_true rfl) ⟨rfl, rfl⟩

def f_X0_doEnds_c73 (κr : Nat → Int32 → Int32 → XM → Option (Int32 × XM)) (v2 : Int32) (s1 : Nat) (s0 : Int32) (M : XM) : Option (Int32 × XM) :=
  if x_tag M s1 = 0 + 10 then (x_bd (κr s1 s0 v2 M) (f_X0_doEnds_c77 κr)) else none
set_option maxRecDepth 20000 in
set_option maxHeartbeats 4000000 in
theorem t_X0_doEnds_c73 (l : Launch) {r : Nat} {κr : Nat → Int32 → Int32 → XM → Option (Int32 × XM)} {v2 : Int32} {s1 : Nat} {s0 : Int32} {M : XM} {q : Int32 × XM} (hκr : ∀ {v0 : Nat} {v1 : Int32} {v2 : Int32} {M : XM} {q : Int32 × XM}, κr v0 v1 v2 M = some q → Ct l m_X0_doEnds (22 + r) 0 0 [(.ref v0), (.int v1), (.int v2)] M (x_Ri q)) (H : f_X0_doEnds_c73 κr v2 s1 s0 M = some q) : AW l m_X0_doEnds (22 + (r + 1)) 0 0 (x_Ri q) 0 0 76 [none, none, some (.int v2)] [(.int s0), (.ref s1)] M := by
  unfold f_X0_doEnds_c73 at H
  refine x_iload_n 76 2 dX0_doEnds_76 rfl rfl ?_
  obtain ⟨h30, H⟩ := x_ckp H
  obtain ⟨r32, M31, e33, H⟩ := x_bd_of H
  refine x_callV 77 39 0 [(.int s0), (.int v2)] [] dX0_doEnds_77 (hκr e33) lk_995 lk_997 lk_34 (by decide) h30 lk_92 lk_998 ⟨cn_X0_doEnds, (by omega), by decide⟩ rfl (Nat.le_of_ble_eq_true rfl) (Nat.le_of_ble_eq_true rfl) (Nat.le_of_ble_eq_true rfl) (x_ri ?_)
  exact x_wk (le_s (le_s (le_n le_0))) (t_X0_doEnds_c77 l hκr H)

def f_X0_doEnds_c68 (κr : Nat → Int32 → Int32 → XM → Option (Int32 × XM)) (v0 : Nat) (v1 : Int32) (v2 : Int32) (M : XM) : Option (Int32 × XM) :=
  x_bd (f_X8_above v1 M) (f_X0_doEnds_c73 κr v2 v0)
set_option maxRecDepth 20000 in
set_option maxHeartbeats 4000000 in
theorem t_X0_doEnds_c68 (l : Launch) {r : Nat} {κr : Nat → Int32 → Int32 → XM → Option (Int32 × XM)} {v0 : Nat} {v1 : Int32} {v2 : Int32} {M : XM} {q : Int32 × XM} (hκr : ∀ {v0 : Nat} {v1 : Int32} {v2 : Int32} {M : XM} {q : Int32 × XM}, κr v0 v1 v2 M = some q → Ct l m_X0_doEnds (22 + r) 0 0 [(.ref v0), (.int v1), (.int v2)] M (x_Ri q)) (H : f_X0_doEnds_c68 κr v0 v1 v2 M = some q) : AW l m_X0_doEnds (22 + (r + 1)) 0 0 (x_Ri q) 0 0 71 [some (.ref v0), some (.int v1), some (.int v2)] [] M := by
  unfold f_X0_doEnds_c68 at H
  refine x_aload_n 71 0 dX0_doEnds_71 rfl rfl ?_
  refine x_iload_n 72 1 dX0_doEnds_72 rfl rfl ?_
  obtain ⟨r28, M27, e29, H⟩ := x_bd_of H
  refine x_callSN 73 46 [(.int v1)] [(.ref v0)] dX0_doEnds_73 (ct_X8_above l e29) (List.mem_of_getElem? (i := 13) rfl) lk_508 lk_85 lk_509 ⟨cn_X8_above, (by omega), by decide⟩ rfl (Nat.le_of_ble_eq_true rfl) (Nat.le_of_ble_eq_true rfl) (Nat.le_of_ble_eq_true rfl) (x_ri ?_)
  exact x_wk (le_n (le_n (le_s le_0))) (t_X0_doEnds_c73 l hκr H)

def f_X0_doEnds_c92 (κr : Nat → Int32 → Int32 → XM → Option (Int32 × XM)) (v2 : Int32) (s1 : Nat) (s0 : Int32) (M : XM) : Option (Int32 × XM) :=
  if x_tag M s1 = 0 + 10 then (x_bd (κr s1 s0 v2 M) (fun r43 M42 => some (r43, M42))) else none
set_option maxRecDepth 20000 in
set_option maxHeartbeats 4000000 in
theorem t_X0_doEnds_c92 (l : Launch) {r : Nat} {κr : Nat → Int32 → Int32 → XM → Option (Int32 × XM)} {v2 : Int32} {s1 : Nat} {s0 : Int32} {M : XM} {q : Int32 × XM} (hκr : ∀ {v0 : Nat} {v1 : Int32} {v2 : Int32} {M : XM} {q : Int32 × XM}, κr v0 v1 v2 M = some q → Ct l m_X0_doEnds (22 + r) 0 0 [(.ref v0), (.int v1), (.int v2)] M (x_Ri q)) (H : f_X0_doEnds_c92 κr v2 s1 s0 M = some q) : AW l m_X0_doEnds (22 + (r + 1)) 0 0 (x_Ri q) 0 0 95 [none, none, some (.int v2)] [(.int s0), (.ref s1)] M := by
  unfold f_X0_doEnds_c92 at H
  refine x_iload_n 95 2 dX0_doEnds_95 rfl rfl ?_
  obtain ⟨h41, H⟩ := x_ckp H
  obtain ⟨r43, M42, e44, H⟩ := x_bd_of H
  refine x_callV 96 39 0 [(.int s0), (.int v2)] [] dX0_doEnds_96 (hκr e44) lk_995 lk_997 lk_34 (by decide) h41 lk_92 lk_998 ⟨cn_X0_doEnds, (by omega), by decide⟩ rfl (Nat.le_of_ble_eq_true rfl) (Nat.le_of_ble_eq_true rfl) (Nat.le_of_ble_eq_true rfl) (x_ri ?_)
  refine x_goto 99 103 dX0_doEnds_99 (by decide) ?_
  cases H
  exact x_iret 103 dX0_doEnds_103 .int rfl rfl (Nat.le_of_ble_eq_true rfl) (Nat.le_of_ble_eq_true rfl) ⟨rfl, rfl⟩

def f_X0_doEnds_c84 (κr : Nat → Int32 → Int32 → XM → Option (Int32 × XM)) (v0 : Nat) (v1 : Int32) (v2 : Int32) (s0 : Int32) (M : XM) : Option (Int32 × XM) :=
  if s0 = 0 then (some ((0 : Int32), M)) else (x_bd (f_X8_above v1 M) (f_X0_doEnds_c92 κr v2 v0))
set_option maxRecDepth 20000 in
set_option maxHeartbeats 4000000 in
theorem t_X0_doEnds_c84 (l : Launch) {r : Nat} {κr : Nat → Int32 → Int32 → XM → Option (Int32 × XM)} {v0 : Nat} {v1 : Int32} {v2 : Int32} {s0 : Int32} {M : XM} {q : Int32 × XM} (hκr : ∀ {v0 : Nat} {v1 : Int32} {v2 : Int32} {M : XM} {q : Int32 × XM}, κr v0 v1 v2 M = some q → Ct l m_X0_doEnds (22 + r) 0 0 [(.ref v0), (.int v1), (.int v2)] M (x_Ri q)) (H : f_X0_doEnds_c84 κr v0 v1 v2 s0 M = some q) : AW l m_X0_doEnds (22 + (r + 1)) 0 0 (x_Ri q) 0 0 87 [some (.ref v0), some (.int v1), some (.int v2)] [(.int s0)] M := by
  unfold f_X0_doEnds_c84 at H
  refine x_if_eq 87 102 dX0_doEnds_87 (by decide) (fun c37 => ?_) (fun c37 => ?_)
  · replace H := x_ifp c37 H
    refine x_iconst 102 (0 : Int32) dX0_doEnds_102 (by decide) ?_
    cases H
    exact x_iret 103 dX0_doEnds_103 .int rfl rfl (Nat.le_of_ble_eq_true rfl) (Nat.le_of_ble_eq_true rfl) ⟨rfl, rfl⟩
  · replace H := x_ifn c37 H
    refine x_aload_n 90 0 dX0_doEnds_90 rfl rfl ?_
    refine x_iload_n 91 1 dX0_doEnds_91 rfl rfl ?_
    obtain ⟨r39, M38, e40, H⟩ := x_bd_of H
    refine x_callSN 92 46 [(.int v1)] [(.ref v0)] dX0_doEnds_92 (ct_X8_above l e40) (List.mem_of_getElem? (i := 13) rfl) lk_508 lk_85 lk_509 ⟨cn_X8_above, (by omega), by decide⟩ rfl (Nat.le_of_ble_eq_true rfl) (Nat.le_of_ble_eq_true rfl) (Nat.le_of_ble_eq_true rfl) (x_ri ?_)
    exact x_wk (le_n (le_n (le_s le_0))) (t_X0_doEnds_c92 l hκr H)

def bd_X0_doEnds (κr : Nat → Int32 → Int32 → XM → Option (Int32 × XM)) (v0 : Nat) (v1 : Int32) (v2 : Int32) (M : XM) : Option (Int32 × XM) :=
  if v1 = (0 : Int32) then (if x_tag M v0 = 0 + 10 then (x_bv (f_X0_begin v0 (12 : Int32) M) (f_X0_doEnds_c39 κr v0 v2)) else none) else if v1 = (4 : Int32) then (if x_tag M v0 = 0 + 10 then (x_bv (f_X0_begin v0 (50 : Int32) M) (f_X0_doEnds_c51 κr v0 v1 v2)) else none) else if v1 = (5 : Int32) then (if x_tag M v0 = 0 + 10 then (x_bv (f_X0_begin v0 (60 : Int32) M) (f_X0_doEnds_c68 κr v0 v1 v2)) else none) else x_bd (f_X8_isKind v1 M) (f_X0_doEnds_c84 κr v0 v1 v2)
set_option maxRecDepth 20000 in
set_option maxHeartbeats 4000000 in
theorem t0_X0_doEnds (l : Launch) {r : Nat} {κr : Nat → Int32 → Int32 → XM → Option (Int32 × XM)} {v0 : Nat} {v1 : Int32} {v2 : Int32} {M : XM} {q : Int32 × XM} (hκr : ∀ {v0 : Nat} {v1 : Int32} {v2 : Int32} {M : XM} {q : Int32 × XM}, κr v0 v1 v2 M = some q → Ct l m_X0_doEnds (22 + r) 0 0 [(.ref v0), (.int v1), (.int v2)] M (x_Ri q)) (H : bd_X0_doEnds κr v0 v1 v2 M = some q) : AW l m_X0_doEnds (22 + (r + 1)) 0 0 (x_Ri q) 0 0 0 [some (.ref v0), some (.int v1), some (.int v2)] [] M := by
  unfold bd_X0_doEnds at H
  refine x_iload_n 0 1 dX0_doEnds_0 rfl rfl ?_
  by_cases c1 : v1 = (0 : Int32)
  · replace H := x_ifp c1 H
    refine x_lookup (off := 35) 1 36 dX0_doEnds_1 (by decide) (by rw [c1]; rfl) (by decide) ?_
    refine x_aload_n 36 0 dX0_doEnds_36 rfl rfl ?_
    refine x_bipush 37 (12 : Int32) dX0_doEnds_37 (by decide) ?_
    obtain ⟨h2, H⟩ := x_ckp H
    obtain ⟨M3, e5, H⟩ := x_bv_of H
    refine x_callV 39 42 0 [(.int (12 : Int32))] [] dX0_doEnds_39 (ct_X0_begin l e5) lk_985 lk_987 lk_32 (by decide) h2 lk_92 lk_988 ⟨cn_X0_begin, (by omega), by decide⟩ rfl (Nat.le_of_ble_eq_true rfl) (Nat.le_of_ble_eq_true rfl) (Nat.le_of_ble_eq_true rfl) (x_rv ?_)
    exact x_wk (le_s (le_n (le_s le_0))) (t_X0_doEnds_c39 l hκr H)
  · replace H := x_ifn c1 H
    by_cases c10 : v1 = (4 : Int32)
    · replace H := x_ifp c10 H
      refine x_lookup (off := 47) 1 48 dX0_doEnds_1 (by decide) (by rw [c10]; rfl) (by decide) ?_
      refine x_aload_n 48 0 dX0_doEnds_48 rfl rfl ?_
      refine x_bipush 49 (50 : Int32) dX0_doEnds_49 (by decide) ?_
      obtain ⟨h11, H⟩ := x_ckp H
      obtain ⟨M12, e14, H⟩ := x_bv_of H
      refine x_callV 51 42 0 [(.int (50 : Int32))] [] dX0_doEnds_51 (ct_X0_begin l e14) lk_985 lk_987 lk_32 (by decide) h11 lk_92 lk_988 ⟨cn_X0_begin, (by omega), by decide⟩ rfl (Nat.le_of_ble_eq_true rfl) (Nat.le_of_ble_eq_true rfl) (Nat.le_of_ble_eq_true rfl) (x_rv ?_)
      exact t_X0_doEnds_c51 l hκr H
    · replace H := x_ifn c10 H
      by_cases c22 : v1 = (5 : Int32)
      · replace H := x_ifp c22 H
        refine x_lookup (off := 64) 1 65 dX0_doEnds_1 (by decide) (by rw [c22]; rfl) (by decide) ?_
        refine x_aload_n 65 0 dX0_doEnds_65 rfl rfl ?_
        refine x_bipush 66 (60 : Int32) dX0_doEnds_66 (by decide) ?_
        obtain ⟨h23, H⟩ := x_ckp H
        obtain ⟨M24, e26, H⟩ := x_bv_of H
        refine x_callV 68 42 0 [(.int (60 : Int32))] [] dX0_doEnds_68 (ct_X0_begin l e26) lk_985 lk_987 lk_32 (by decide) h23 lk_92 lk_988 ⟨cn_X0_begin, (by omega), by decide⟩ rfl (Nat.le_of_ble_eq_true rfl) (Nat.le_of_ble_eq_true rfl) (Nat.le_of_ble_eq_true rfl) (x_rv ?_)
        exact t_X0_doEnds_c68 l hκr H
      · replace H := x_ifn c22 H
        refine x_lookup (off := 82) 1 83 dX0_doEnds_1 (by decide) (by show Op.lookupswitch.offset [(0, 35), (4, 47), (5, 64)] 82 _ = _; rw [lv_osw c1 (by decide), lv_osw c10 (by decide), lv_osw c22 (by decide)]; rfl) (by decide) ?_
        refine x_iload_n 83 1 dX0_doEnds_83 rfl rfl ?_
        obtain ⟨r35, M34, e36, H⟩ := x_bd_of H
        refine x_callSN 84 50 [(.int v1)] [] dX0_doEnds_84 (ct_X8_isKind l e36) (List.mem_of_getElem? (i := 14) rfl) lk_500 lk_85 lk_501 ⟨cn_X8_isKind, (by omega), by decide⟩ rfl (Nat.le_of_ble_eq_true rfl) (Nat.le_of_ble_eq_true rfl) (Nat.le_of_ble_eq_true rfl) (x_ri ?_)
        exact t_X0_doEnds_c84 l hκr H

def f_X0_doEnds (r : Nat) : Nat → Int32 → Int32 → XM → Option (Int32 × XM) := x_rec (fun _ _ _ _ => none) bd_X0_doEnds r
theorem ct_X0_doEnds (l : Launch) : ∀ (r : Nat) {v0 : Nat} {v1 : Int32} {v2 : Int32} {M : XM} {q : Int32 × XM}, f_X0_doEnds r v0 v1 v2 M = some q → Ct l m_X0_doEnds (22 + r) 0 0 [(.ref v0), (.int v1), (.int v2)] M (x_Ri q) := by
  intro r
  induction r with
  | zero => intro v0 v1 v2 M q H; cases H
  | succ r ih => intro v0 v1 v2 M q H; exact x_met l m_X0_doEnds (22 + (r + 1)) 0 0 [(.ref v0), (.int v1), (.int v2)] M (x_Ri q) _ rfl rfl (Nat.le_of_ble_eq_true rfl) (t0_X0_doEnds l ih H)
abbrev m_X0_perform : XU := (yX0_perform, cX0_perform, 5, (some .int))
theorem cn_X0_perform : m_X0_perform.1.cls ≠ "java/lang/invoke/MethodHandle" ∧ m_X0_perform.1.cls ≠ "java/lang/invoke/VarHandle" ∧ (parseMethodDescriptor m_X0_perform.1.desc).map (fun q => q.parameters.length) = some 4 := by decide +kernel
def f_X0_perform (v0 : Nat) (v1 : Nat) (v2 : Int32) (v3 : Int32) (v4 : Int32) (M : XM) : Option (Int32 × XM) :=
  if x_tag M v1 = 2 + 10 then (if x_tag M v0 = 0 + 10 then (x_lt (x_wi M v0 2 (x_i M v1 0)) (fun M3 => x_lt (x_wi M3 v0 3 v2) (fun M7 => x_lt (x_wi M7 v0 4 (x_i M7 v1 1)) (fun M11 => if v3 = 0 then (x_bd (f_X0_doCounts 8 v0 (x_i M11 v0 2) v4 M11) (fun r17 M16 => some (r17, M16))) else (if v3 = (1 : Int32) then (x_bd (f_X0_doAsks 8 v0 (x_i M11 v0 2) v4 M11) (fun r21 M20 => some (r21, M20))) else (x_bd (f_X0_doEnds 8 v0 (x_i M11 v0 2) v4 M11) (fun r24 M23 => some (r24, M23)))))))) else none) else none
set_option maxRecDepth 20000 in
set_option maxHeartbeats 4000000 in
theorem t_X0_perform (l : Launch) {v0 : Nat} {v1 : Nat} {v2 : Int32} {v3 : Int32} {v4 : Int32} {M : XM} {q : Int32 × XM} (H : f_X0_perform v0 v1 v2 v3 v4 M = some q) : AW l m_X0_perform 31 0 0 (x_Ri q) 0 0 0 [some (.ref v0), some (.ref v1), some (.int v2), some (.int v3), some (.int v4)] [] M := by
  unfold f_X0_perform at H
  refine x_aload_n 0 0 dX0_perform_0 rfl rfl ?_
  refine x_aload_n 1 1 dX0_perform_1 rfl rfl ?_
  obtain ⟨h1, H⟩ := x_ckp H
  refine x_getf 2 19 2 0 (.int (x_i M v1 0)) dX0_perform_2 lk_124 (by decide) (by decide) rfl (fun _ => rfl) h1 ?_
  obtain ⟨h2, H⟩ := x_ckp H
  obtain ⟨M3, w4, H⟩ := x_lt_of H
  have h5 : x_tag M3 v1 = 2 + 10 := by rw [w4]; exact h1
  have h6 : x_tag M3 v0 = 0 + 10 := by rw [w4]; exact h2
  refine x_putI' 5 24 0 2 dX0_perform_5 lk_323 (by decide) (by decide) rfl (Or.inl rfl) (Or.inl rfl) h2 w4 ?_
  refine x_aload_n 8 0 dX0_perform_8 rfl rfl ?_
  refine x_iload_n 9 2 dX0_perform_9 rfl rfl ?_
  obtain ⟨M7, w8, H⟩ := x_lt_of H
  have h9 : x_tag M7 v1 = 2 + 10 := by rw [w8]; exact h5
  have h10 : x_tag M7 v0 = 0 + 10 := by rw [w8]; exact h6
  refine x_putI' 10 25 0 3 dX0_perform_10 lk_324 (by decide) (by decide) rfl (Or.inl rfl) (Or.inl rfl) h6 w8 ?_
  refine x_aload_n 13 0 dX0_perform_13 rfl rfl ?_
  refine x_aload_n 14 1 dX0_perform_14 rfl rfl ?_
  refine x_getf 15 28 2 1 (.int (x_i M7 v1 1)) dX0_perform_15 lk_127 (by decide) (by decide) rfl (fun _ => rfl) h9 ?_
  obtain ⟨M11, w12, H⟩ := x_lt_of H
  have h13 : x_tag M11 v1 = 2 + 10 := by rw [w12]; exact h9
  have h14 : x_tag M11 v0 = 0 + 10 := by rw [w12]; exact h10
  refine x_putI' 18 31 0 4 dX0_perform_18 lk_325 (by decide) (by decide) rfl (Or.inl rfl) (Or.inl rfl) h10 w12 ?_
  refine x_iload_n 21 3 dX0_perform_21 rfl rfl ?_
  refine x_if_ne 22 36 dX0_perform_22 (by decide) (fun c15 => ?_) (fun c15 => ?_)
  · replace H := x_ifn c15 H
    refine x_iload_n 36 3 dX0_perform_36 rfl rfl ?_
    refine x_iconst 37 (1 : Int32) dX0_perform_37 (by decide) ?_
    refine x_icmp_ne 38 54 dX0_perform_38 (by decide) (fun c19 => ?_) (fun c19 => ?_)
    · replace H := x_ifn c19 H
      refine x_aload_n 54 0 dX0_perform_54 rfl rfl ?_
      refine x_aload_n 55 0 dX0_perform_55 rfl rfl ?_
      refine x_getf 56 24 0 2 (.int (x_i M11 v0 2)) dX0_perform_56 lk_323 (by decide) (by decide) rfl (fun _ => rfl) h14 ?_
      refine x_iload 59 4 dX0_perform_59 rfl ?_
      obtain ⟨r24, M23, e25, H⟩ := x_bd_of H
      refine x_callV 61 39 0 [(.int (x_i M11 v0 2)), (.int v4)] [] dX0_perform_61 (ct_X0_doEnds l 8 e25) lk_995 lk_997 lk_34 (by decide) h14 lk_92 lk_998 ⟨cn_X0_doEnds, (by decide), by decide⟩ rfl (Nat.le_of_ble_eq_true rfl) (Nat.le_of_ble_eq_true rfl) (Nat.le_of_ble_eq_true rfl) (x_ri ?_)
      cases H
      exact x_iret 64 dX0_perform_64 .int rfl rfl (Nat.le_of_ble_eq_true rfl) (Nat.le_of_ble_eq_true rfl) ⟨rfl, rfl⟩
    · replace H := x_ifp c19 H
      refine x_aload_n 41 0 dX0_perform_41 rfl rfl ?_
      refine x_aload_n 42 0 dX0_perform_42 rfl rfl ?_
      refine x_getf 43 24 0 2 (.int (x_i M11 v0 2)) dX0_perform_43 lk_323 (by decide) (by decide) rfl (fun _ => rfl) h14 ?_
      refine x_iload 46 4 dX0_perform_46 rfl ?_
      obtain ⟨r21, M20, e22, H⟩ := x_bd_of H
      refine x_callV 48 36 0 [(.int (x_i M11 v0 2)), (.int v4)] [] dX0_perform_48 (ct_X0_doAsks l 8 e22) lk_991 lk_993 lk_33 (by decide) h14 lk_92 lk_994 ⟨cn_X0_doAsks, (by decide), by decide⟩ rfl (Nat.le_of_ble_eq_true rfl) (Nat.le_of_ble_eq_true rfl) (Nat.le_of_ble_eq_true rfl) (x_ri ?_)
      refine x_goto 51 64 dX0_perform_51 (by decide) ?_
      cases H
      exact x_iret 64 dX0_perform_64 .int rfl rfl (Nat.le_of_ble_eq_true rfl) (Nat.le_of_ble_eq_true rfl) ⟨rfl, rfl⟩
  · replace H := x_ifp c15 H
    refine x_aload_n 25 0 dX0_perform_25 rfl rfl ?_
    refine x_aload_n 26 0 dX0_perform_26 rfl rfl ?_
    refine x_getf 27 24 0 2 (.int (x_i M11 v0 2)) dX0_perform_27 lk_323 (by decide) (by decide) rfl (fun _ => rfl) h14 ?_
    refine x_iload 30 4 dX0_perform_30 rfl ?_
    obtain ⟨r17, M16, e18, H⟩ := x_bd_of H
    refine x_callV 32 32 0 [(.int (x_i M11 v0 2)), (.int v4)] [] dX0_perform_32 (ct_X0_doCounts l 8 e18) lk_981 lk_983 lk_31 (by decide) h14 lk_92 lk_984 ⟨cn_X0_doCounts, (by decide), by decide⟩ rfl (Nat.le_of_ble_eq_true rfl) (Nat.le_of_ble_eq_true rfl) (Nat.le_of_ble_eq_true rfl) (x_ri ?_)
    cases H
    exact x_iret 35 dX0_perform_35 .int rfl rfl (Nat.le_of_ble_eq_true rfl) (Nat.le_of_ble_eq_true rfl) ⟨rfl, rfl⟩

theorem ct_X0_perform (l : Launch) {v0 : Nat} {v1 : Nat} {v2 : Int32} {v3 : Int32} {v4 : Int32} {M : XM} {q : Int32 × XM} (H : f_X0_perform v0 v1 v2 v3 v4 M = some q) : Ct l m_X0_perform 31 0 0 [(.ref v0), (.ref v1), (.int v2), (.int v3), (.int v4)] M (x_Ri q) := x_met l m_X0_perform 31 0 0 [(.ref v0), (.ref v1), (.int v2), (.int v3), (.int v4)] M (x_Ri q) _ rfl rfl (Nat.le_of_ble_eq_true rfl) (t_X0_perform l H)
theorem lk_270 : Cond.methodLink RX1 3 Lib.objectInit ∈ x_TB := x_tb (k := 270) (by decide +kernel) rfl
theorem lk_271 : Cond.fieldLink RX1 9 RX1 "parts" "[I" ∈ x_TB := x_tb (k := 271) (by decide +kernel) rfl
theorem lk_272 : Cond.fieldLink RX1 15 RX1 "next" "[I" ∈ x_TB := x_tb (k := 272) (by decide +kernel) rfl
theorem lk_273 : Cond.fieldLink RX1 18 RX1 "lefts" "[I" ∈ x_TB := x_tb (k := 273) (by decide +kernel) rfl
abbrev m_X1_init : XU := (yX1_init, cX1_init, 1, none)
theorem cn_X1_init : m_X1_init.1.cls ≠ "java/lang/invoke/MethodHandle" ∧ m_X1_init.1.cls ≠ "java/lang/invoke/VarHandle" ∧ (parseMethodDescriptor m_X1_init.1.desc).map (fun q => q.parameters.length) = some 0 := by decide +kernel
def f_X1_init (v0 : Nat) (M : XM) : Option XM :=
  if x_tag M v0 = 1 + 10 then (x_al M 1 2000 (fun a3 M2 => if x_tag M2 v0 = 1 + 10 then (x_lt (x_wr M2 v0 0 a3) (fun M8 => x_al M8 1 2000 (fun a13 M12 => if x_tag M12 v0 = 1 + 10 then (x_lt (x_wr M12 v0 1 a13) (fun M18 => x_al M18 1 2000 (fun a23 M22 => if x_tag M22 v0 = 1 + 10 then (x_lt (x_wr M22 v0 2 a23) (fun M28 => some M28)) else none))) else none))) else none)) else none
set_option maxRecDepth 20000 in
set_option maxHeartbeats 4000000 in
theorem t_X1_init (l : Launch) {v0 : Nat} {M : XM} {q : XM} (H : f_X1_init v0 M = some q) : AW l m_X1_init 1 3 6000 (x_Rv q) 0 0 0 [some (.ref v0)] [] M := by
  unfold f_X1_init at H
  refine x_aload_n 0 0 dX1_init_0 rfl rfl ?_
  obtain ⟨h1, H⟩ := x_ckp H
  refine x_objInit 1 3 dX1_init_1 lk_270 lk_108 lk_109 h1 rfl (Nat.le_of_ble_eq_true rfl) (by decide) ?_
  refine x_aload_n 4 0 dX1_init_4 rfl rfl ?_
  refine x_sipush 5 (2000 : Int32) dX1_init_5 (by decide) ?_
  obtain ⟨a3, M2, w4, w5, H⟩ := x_al_of H
  refine x_newI' 8 2000 dX1_init_8 lk_153 (by decide) (by decide) (by decide) (Nat.le_of_ble_eq_true rfl) (Nat.le_of_ble_eq_true rfl) w4 w5 ?_
  have h6 : x_tag M2 a3 = 1 := x_al_tag w4 w5
  change AW _ _ _ _ _ _ 1 2000 _ _ _ _
  obtain ⟨h7, H⟩ := x_ckp H
  obtain ⟨M8, w9, H⟩ := x_lt_of H
  have h10 : x_tag M8 a3 = 1 := by rw [w9]; exact h6
  have h11 : x_tag M8 v0 = 1 + 10 := by rw [w9]; exact h7
  refine x_putR' 10 9 1 0 dX1_init_10 lk_271 (by decide) (by decide) rfl (Or.inr ⟨_, rfl⟩) (Or.inl rfl) h7 w9 ?_
  refine x_aload_n 13 0 dX1_init_13 rfl rfl ?_
  refine x_sipush 14 (2000 : Int32) dX1_init_14 (by decide) ?_
  obtain ⟨a13, M12, w14, w15, H⟩ := x_al_of H
  refine x_newI' 17 2000 dX1_init_17 lk_153 (by decide) (by decide) (by decide) (Nat.le_of_ble_eq_true rfl) (Nat.le_of_ble_eq_true rfl) w14 w15 ?_
  have h16 : x_tag M12 a13 = 1 := x_al_tag w14 w15
  change AW _ _ _ _ _ _ 2 4000 _ _ _ _
  obtain ⟨h17, H⟩ := x_ckp H
  obtain ⟨M18, w19, H⟩ := x_lt_of H
  have h20 : x_tag M18 a13 = 1 := by rw [w19]; exact h16
  have h21 : x_tag M18 v0 = 1 + 10 := by rw [w19]; exact h17
  refine x_putR' 19 15 1 1 dX1_init_19 lk_272 (by decide) (by decide) rfl (Or.inr ⟨_, rfl⟩) (Or.inl rfl) h17 w19 ?_
  refine x_aload_n 22 0 dX1_init_22 rfl rfl ?_
  refine x_sipush 23 (2000 : Int32) dX1_init_23 (by decide) ?_
  obtain ⟨a23, M22, w24, w25, H⟩ := x_al_of H
  refine x_newI' 26 2000 dX1_init_26 lk_153 (by decide) (by decide) (by decide) (Nat.le_of_ble_eq_true rfl) (Nat.le_of_ble_eq_true rfl) w24 w25 ?_
  have h26 : x_tag M22 a23 = 1 := x_al_tag w24 w25
  change AW _ _ _ _ _ _ 3 6000 _ _ _ _
  obtain ⟨h27, H⟩ := x_ckp H
  obtain ⟨M28, w29, H⟩ := x_lt_of H
  have h30 : x_tag M28 a23 = 1 := by rw [w29]; exact h26
  have h31 : x_tag M28 v0 = 1 + 10 := by rw [w29]; exact h27
  refine x_putR' 28 18 1 2 dX1_init_28 lk_273 (by decide) (by decide) rfl (Or.inr ⟨_, rfl⟩) (Or.inr ⟨rfl, rfl⟩) h27 w29 ?_
  cases H
  exact x_vret 31 dX1_init_31 rfl (Nat.le_of_ble_eq_true rfl) (Nat.le_of_ble_eq_true rfl) ⟨rfl, rfl⟩

theorem ct_X1_init (l : Launch) {v0 : Nat} {M : XM} {q : XM} (H : f_X1_init v0 M = some q) : Ct l m_X1_init 1 3 6000 [(.ref v0)] M (x_Rv q) := x_met l m_X1_init 1 3 6000 [(.ref v0)] M (x_Rv q) _ rfl rfl (Nat.le_of_ble_eq_true rfl) (t_X1_init l H)
theorem lk_168 : Cond.fieldLink RX1 21 RX4 "apart" "I" ∈ x_TB := x_tb (k := 168) (by decide +kernel) rfl
theorem lk_157 : Cond.fieldLink RX1 37 RX4 "counters" "[LWhatDidYouSay$Counter;" ∈ x_TB := x_tb (k := 157) (by decide +kernel) rfl
theorem lk_165 : Cond.fieldLink RX1 41 RX4 "n" "I" ∈ x_TB := x_tb (k := 165) (by decide +kernel) rfl
theorem lk_784 : Cond.methodLink RX1 44 Lib.Math.min.name ∈ x_TB := x_tb (k := 784) (by decide +kernel) rfl
theorem lk_561 : Cond.static Lib.Math.min.name ∈ x_TB := x_tb (k := 561) (by decide +kernel) rfl
theorem lk_97 : Cond.initialized "java/lang/Math" ∈ x_TB := x_tb (k := 97) (by decide +kernel) rfl
theorem lk_562 : Cond.code Lib.Math.min.name Lib.Math.min.code 2 (some .int) ∈ x_TB := x_tb (k := 562) (by decide +kernel) rfl
theorem lk_274 : Cond.fieldLink RX1 50 RX1 "n" "I" ∈ x_TB := x_tb (k := 274) (by decide +kernel) rfl
theorem lk_173 : Cond.fieldLink RX1 51 RX4 "odds" "I" ∈ x_TB := x_tb (k := 173) (by decide +kernel) rfl
theorem lk_275 : Cond.fieldLink RX1 54 RX1 "odds" "I" ∈ x_TB := x_tb (k := 275) (by decide +kernel) rfl
theorem lk_123 : Cond.fieldLink RX2 9 RX2 "kind" "I" ∈ x_TB := x_tb (k := 123) (by decide +kernel) rfl
theorem lk_507 : Cond.methodLink RX8 365 yX8_above ∈ x_TB := x_tb (k := 507) (by decide +kernel) rfl
abbrev m_X8_isUnder : XU := (yX8_isUnder, cX8_isUnder, 4, (some .boolean))
theorem cn_X8_isUnder : m_X8_isUnder.1.cls ≠ "java/lang/invoke/MethodHandle" ∧ m_X8_isUnder.1.cls ≠ "java/lang/invoke/VarHandle" ∧ (parseMethodDescriptor m_X8_isUnder.1.desc).map (fun q => q.parameters.length) = some 2 := by decide +kernel
def f_X8_isUnder_c20 (κ4 : Int32 → Int32 → Int32 → XM → Option (Int32 × XM)) (v1 : Int32) (v3 : Int32) (s0 : Int32) (M : XM) : Option (Int32 × XM) :=
  κ4 v1 s0 (v3 + (1 : Int32)) M
set_option maxRecDepth 20000 in
set_option maxHeartbeats 4000000 in
theorem t_X8_isUnder_c20 (l : Launch) {κ4 : Int32 → Int32 → Int32 → XM → Option (Int32 × XM)} {v1 : Int32} {v3 : Int32} {s0 : Int32} {M : XM} {q : Int32 × XM} (hκ4 : ∀ (v1 : Int32) (v2 : Int32) (v3 : Int32) (M : XM), κ4 v1 v2 v3 M = some q → AW l m_X8_isUnder 3 0 0 (x_Ri q) 0 0 4 [none, some (.int v1), some (.int v2), some (.int v3)] [] M) (H : f_X8_isUnder_c20 κ4 v1 v3 s0 M = some q) : AW l m_X8_isUnder 3 0 0 (x_Ri q) 0 0 23 [none, some (.int v1), none, some (.int v3)] [(.int s0)] M := by
  unfold f_X8_isUnder_c20 at H
  refine x_istore_n 23 2 [none, some (.int v1), some (.int s0), some (.int v3)] dX8_isUnder_23 rfl rfl (Nat.le_of_ble_eq_true rfl) rfl ?_
  refine x_iinc 24 3 (v3 + (1 : Int32)) [none, some (.int v1), some (.int s0), some (.int (v3 + (1 : Int32)))] dX8_isUnder_24 rfl (congrArg (fun z : Int32 => v3 + z) (show Int32.ofInt (1) = (1 : Int32) by decide)) rfl (Nat.le_of_ble_eq_true rfl) rfl ?_
  refine x_goto 27 4 dX8_isUnder_27 (by decide) ?_
  exact hκ4 _ _ _ _ H

def bd_X8_isUnder_4 (κ4 : Int32 → Int32 → Int32 → XM → Option (Int32 × XM)) (v1 : Int32) (v2 : Int32) (v3 : Int32) (M : XM) : Option (Int32 × XM) :=
  if x_tag M 2 = 5 then (if (Int32.ofNat (x_len M 2)) ≤ v3 then (some ((0 : Int32), M)) else (if v2 = v1 then (some ((1 : Int32), M)) else (x_bd (f_X8_above v2 M) (f_X8_isUnder_c20 κ4 v1 v3)))) else none
set_option maxRecDepth 20000 in
set_option maxHeartbeats 4000000 in
theorem tb_X8_isUnder_4 (l : Launch) {κ4 : Int32 → Int32 → Int32 → XM → Option (Int32 × XM)} {v1 : Int32} {v2 : Int32} {v3 : Int32} {M : XM} {q : Int32 × XM} (hκ4 : ∀ (v1 : Int32) (v2 : Int32) (v3 : Int32) (M : XM), κ4 v1 v2 v3 M = some q → AW l m_X8_isUnder 3 0 0 (x_Ri q) 0 0 4 [none, some (.int v1), some (.int v2), some (.int v3)] [] M) (H : bd_X8_isUnder_4 κ4 v1 v2 v3 M = some q) : AW l m_X8_isUnder 3 0 0 (x_Ri q) 0 0 4 [none, some (.int v1), some (.int v2), some (.int v3)] [] M := by
  unfold bd_X8_isUnder_4 at H
  refine x_iload_n 4 3 dX8_isUnder_4 rfl rfl ?_
  refine x_gets 5 350 2 "ABOVE" "[I" dX8_isUnder_5 "WhatDidYouSay" x_ZA lk_502 ?_
  obtain ⟨h1, H⟩ := x_ckp H
  refine x_salen 8 dX8_isUnder_8 h1 (by decide) ?_
  refine x_icmp_ge 9 30 dX8_isUnder_9 (by decide) (fun c2 => ?_) (fun c2 => ?_)
  · replace H := x_ifp c2 H
    refine x_iconst 30 (0 : Int32) dX8_isUnder_30 (by decide) ?_
    cases H
    exact x_iret 31 dX8_isUnder_31 .boolean rfl rfl (Nat.le_of_ble_eq_true rfl) (Nat.le_of_ble_eq_true rfl) ⟨rfl, rfl⟩
  · replace H := x_ifn c2 H
    refine x_iload_n 12 2 dX8_isUnder_12 rfl rfl ?_
    refine x_iload_n 13 1 dX8_isUnder_13 rfl rfl ?_
    refine x_icmp_ne 14 19 dX8_isUnder_14 (by decide) (fun c3 => ?_) (fun c3 => ?_)
    · replace H := x_ifn c3 H
      refine x_iload_n 19 2 dX8_isUnder_19 rfl rfl ?_
      obtain ⟨r5, M4, e6, H⟩ := x_bd_of H
      refine x_callS 20 365 [(.int v2)] [] dX8_isUnder_20 (ct_X8_above l e6) lk_507 lk_508 lk_85 lk_509 ⟨cn_X8_above, (by decide), by decide⟩ rfl (Nat.le_of_ble_eq_true rfl) (Nat.le_of_ble_eq_true rfl) (Nat.le_of_ble_eq_true rfl) (x_ri ?_)
      exact x_wk (le_s (le_s (le_n (le_s le_0)))) (t_X8_isUnder_c20 l hκ4 H)
    · replace H := x_ifp c3 H
      refine x_iconst 17 (1 : Int32) dX8_isUnder_17 (by decide) ?_
      cases H
      exact x_iret 18 dX8_isUnder_18 .boolean rfl rfl (Nat.le_of_ble_eq_true rfl) (Nat.le_of_ble_eq_true rfl) ⟨rfl, rfl⟩

def lp_X8_isUnder_4 (n : Nat) : Int32 → Int32 → Int32 → XM → Option (Int32 × XM) := x_rec (fun _ _ _ _ => none) (bd_X8_isUnder_4) n
theorem t_X8_isUnder_4 (l : Launch) {q : Int32 × XM} : ∀ (n : Nat) (v1 : Int32) (v2 : Int32) (v3 : Int32) (M : XM), lp_X8_isUnder_4 n v1 v2 v3 M = some q → AW l m_X8_isUnder 3 0 0 (x_Ri q) 0 0 4 [none, some (.int v1), some (.int v2), some (.int v3)] [] M := by
  intro n
  induction n with
  | zero => intro v1 v2 v3 M H; cases H
  | succ n ih => intro v1 v2 v3 M H; exact tb_X8_isUnder_4 l ih H
def f_X8_isUnder (v0 : Int32) (v1 : Int32) (M : XM) : Option (Int32 × XM) :=
  lp_X8_isUnder_4 x_fuel v1 v0 (0 : Int32) M
set_option maxRecDepth 20000 in
set_option maxHeartbeats 4000000 in
theorem t_X8_isUnder (l : Launch) {v0 : Int32} {v1 : Int32} {M : XM} {q : Int32 × XM} (H : f_X8_isUnder v0 v1 M = some q) : AW l m_X8_isUnder 3 0 0 (x_Ri q) 0 0 0 [some (.int v0), some (.int v1), none, none] [] M := by
  unfold f_X8_isUnder at H
  refine x_iload_n 0 0 dX8_isUnder_0 rfl rfl ?_
  refine x_istore_n 1 2 [some (.int v0), some (.int v1), some (.int v0), none] dX8_isUnder_1 rfl rfl (Nat.le_of_ble_eq_true rfl) rfl ?_
  refine x_iconst 2 (0 : Int32) dX8_isUnder_2 (by decide) ?_
  refine x_istore_n 3 3 [some (.int v0), some (.int v1), some (.int v0), some (.int (0 : Int32))] dX8_isUnder_3 rfl rfl (Nat.le_of_ble_eq_true rfl) rfl ?_
  exact x_wk (le_n (le_s (le_s (le_s le_0)))) (t_X8_isUnder_4 l _ _ _ _ _ H)

theorem ct_X8_isUnder (l : Launch) {v0 : Int32} {v1 : Int32} {M : XM} {q : Int32 × XM} (H : f_X8_isUnder v0 v1 M = some q) : Ct l m_X8_isUnder 3 0 0 [(.int v0), (.int v1)] M (x_Ri q) := x_met l m_X8_isUnder 3 0 0 [(.int v0), (.int v1)] M (x_Ri q) _ rfl rfl (Nat.le_of_ble_eq_true rfl) (t_X8_isUnder l H)
theorem lk_506 : Cond.code yX8_isUnder cX8_isUnder 4 (some .boolean) ∈ x_TB := x_tb (k := 506) (by decide +kernel) rfl
theorem lk_505 : Cond.static yX8_isUnder ∈ x_TB := x_tb (k := 505) (by decide +kernel) rfl
abbrev m_X2_hearsBySoMany : XU := (yX2_hearsBySoMany, cX2_hearsBySoMany, 1, (some .boolean))
theorem cn_X2_hearsBySoMany : m_X2_hearsBySoMany.1.cls ≠ "java/lang/invoke/MethodHandle" ∧ m_X2_hearsBySoMany.1.cls ≠ "java/lang/invoke/VarHandle" ∧ (parseMethodDescriptor m_X2_hearsBySoMany.1.desc).map (fun q => q.parameters.length) = some 0 := by decide +kernel
def f_X2_hearsBySoMany (v0 : Nat) (M : XM) : Option (Int32 × XM) :=
  if x_tag M v0 = 2 + 10 then (x_bd (f_X8_isUnder (x_i M v0 0) (4 : Int32) M) (fun r3 M2 => if r3 = 0 ∨ r3 = 1 then (some (r3, M2)) else none)) else none
set_option maxRecDepth 20000 in
set_option maxHeartbeats 4000000 in
theorem t_X2_hearsBySoMany (l : Launch) {v0 : Nat} {M : XM} {q : Int32 × XM} (H : f_X2_hearsBySoMany v0 M = some q) : AW l m_X2_hearsBySoMany 4 0 0 (x_Ri q) 0 0 0 [some (.ref v0)] [] M := by
  unfold f_X2_hearsBySoMany at H
  refine x_aload_n 0 0 dX2_hearsBySoMany_0 rfl rfl ?_
  obtain ⟨h1, H⟩ := x_ckp H
  refine x_getf 1 9 2 0 (.int (x_i M v0 0)) dX2_hearsBySoMany_1 lk_123 (by decide) (by decide) rfl (fun _ => rfl) h1 ?_
  refine x_iconst 4 (4 : Int32) dX2_hearsBySoMany_4 (by decide) ?_
  obtain ⟨r3, M2, e4, H⟩ := x_bd_of H
  refine x_callSN 5 30 [(.int (x_i M v0 0)), (.int (4 : Int32))] [] dX2_hearsBySoMany_5 (ct_X8_isUnder l e4) (List.mem_of_getElem? (i := 11) rfl) lk_505 lk_85 lk_506 ⟨cn_X8_isUnder, (by decide), by decide⟩ rfl (Nat.le_of_ble_eq_true rfl) (Nat.le_of_ble_eq_true rfl) (Nat.le_of_ble_eq_true rfl) (x_ri ?_)
  obtain ⟨h5, H⟩ := x_ckp H
  cases H
  exact x_iret 8 dX2_hearsBySoMany_8 .boolean rfl (x_narZ h5) (Nat.le_of_ble_eq_true rfl) (Nat.le_of_ble_eq_true rfl) ⟨rfl, rfl⟩

theorem ct_X2_hearsBySoMany (l : Launch) {v0 : Nat} {M : XM} {q : Int32 × XM} (H : f_X2_hearsBySoMany v0 M = some q) : Ct l m_X2_hearsBySoMany 4 0 0 [(.ref v0)] M (x_Ri q) := x_met l m_X2_hearsBySoMany 4 0 0 [(.ref v0)] M (x_Ri q) _ rfl rfl (Nat.le_of_ble_eq_true rfl) (t_X2_hearsBySoMany l H)
theorem lk_87 : Cond.initialized RX2 ∈ x_TB := x_tb (k := 87) (by decide +kernel) rfl
theorem lk_788 : Cond.code yX2_hearsBySoMany cX2_hearsBySoMany 1 (some .boolean) ∈ x_TB := x_tb (k := 788) (by decide +kernel) rfl
theorem lk_785 : Cond.methodLink RX1 55 yX2_hearsBySoMany ∈ x_TB := x_tb (k := 785) (by decide +kernel) rfl
theorem lk_787 : Cond.selects RX2 yX2_hearsBySoMany yX2_hearsBySoMany ∈ x_TB := x_tb (k := 787) (by decide +kernel) rfl
theorem lk_786 : Cond.instanceMethod yX2_hearsBySoMany ∈ x_TB := x_tb (k := 786) (by decide +kernel) rfl
theorem lk_276 : Cond.fieldLink RX1 64 RX1 "rests" "I" ∈ x_TB := x_tb (k := 276) (by decide +kernel) rfl
abbrev m_J7_fill_53178 : XU := (yJ7_fill_53178, cJ7_fill_53178, 4, none)
theorem cn_J7_fill_53178 : m_J7_fill_53178.1.cls ≠ "java/lang/invoke/MethodHandle" ∧ m_J7_fill_53178.1.cls ≠ "java/lang/invoke/VarHandle" ∧ (parseMethodDescriptor m_J7_fill_53178.1.desc).map (fun q => q.parameters.length) = some 2 := by decide +kernel
def bd_J7_fill_53178_5 (κ5 : Nat → Int32 → Int32 → Int32 → XM → Option XM) (v0 : Nat) (v1 : Int32) (v2 : Int32) (v3 : Int32) (M : XM) : Option XM :=
  if v3 ≤ v2 then (some M) else (if x_at M v0 1 v2 = true then (x_lt (x_wi M v0 v2.toNatClampNeg v1) (fun M4 => κ5 v0 v1 (v2 + (1 : Int32)) v3 M4)) else none)
set_option maxRecDepth 20000 in
set_option maxHeartbeats 4000000 in
theorem tb_J7_fill_53178_5 (l : Launch) {κ5 : Nat → Int32 → Int32 → Int32 → XM → Option XM} {v0 : Nat} {v1 : Int32} {v2 : Int32} {v3 : Int32} {M : XM} {q : XM} (hκ5 : ∀ (v0 : Nat) (v1 : Int32) (v2 : Int32) (v3 : Int32) (M : XM), κ5 v0 v1 v2 v3 M = some q → AW l m_J7_fill_53178 1 0 0 (x_Rv q) 0 0 5 [some (.ref v0), some (.int v1), some (.int v2), some (.int v3)] [] M) (H : bd_J7_fill_53178_5 κ5 v0 v1 v2 v3 M = some q) : AW l m_J7_fill_53178 1 0 0 (x_Rv q) 0 0 5 [some (.ref v0), some (.int v1), some (.int v2), some (.int v3)] [] M := by
  unfold bd_J7_fill_53178_5 at H
  refine x_iload_n 5 2 dJ7_fill_53178_5 rfl rfl ?_
  refine x_iload_n 6 3 dJ7_fill_53178_6 rfl rfl ?_
  refine x_icmp_ge 7 20 dJ7_fill_53178_7 (by decide) (fun c2 => ?_) (fun c2 => ?_)
  · replace H := x_ifp c2 H
    cases H
    exact x_vret 20 dJ7_fill_53178_20 rfl (Nat.le_of_ble_eq_true rfl) (Nat.le_of_ble_eq_true rfl) ⟨rfl, rfl⟩
  · replace H := x_ifn c2 H
    refine x_aload_n 10 0 dJ7_fill_53178_10 rfl rfl ?_
    refine x_iload_n 11 2 dJ7_fill_53178_11 rfl rfl ?_
    refine x_iload_n 12 1 dJ7_fill_53178_12 rfl rfl ?_
    obtain ⟨h3, H⟩ := x_ckp H
    obtain ⟨M4, w5, H⟩ := x_lt_of H
    have h6 : x_at M4 v0 1 v2 = true := by rw [w5]; exact h3
    have h7 : x_tag M4 v0 = 1 := by rw [w5]; exact (x_at_1 h3)
    refine x_iast' 13 dJ7_fill_53178_13 h3 w5 ?_
    refine x_iinc 14 2 (v2 + (1 : Int32)) [some (.ref v0), some (.int v1), some (.int (v2 + (1 : Int32))), some (.int v3)] dJ7_fill_53178_14 rfl (congrArg (fun z : Int32 => v2 + z) (show Int32.ofInt (1) = (1 : Int32) by decide)) rfl (Nat.le_of_ble_eq_true rfl) rfl ?_
    refine x_goto 17 5 dJ7_fill_53178_17 (by decide) ?_
    exact hκ5 _ _ _ _ _ H

def lp_J7_fill_53178_5 (n : Nat) : Nat → Int32 → Int32 → Int32 → XM → Option XM := x_rec (fun _ _ _ _ _ => none) (bd_J7_fill_53178_5) n
theorem t_J7_fill_53178_5 (l : Launch) {q : XM} : ∀ (n : Nat) (v0 : Nat) (v1 : Int32) (v2 : Int32) (v3 : Int32) (M : XM), lp_J7_fill_53178_5 n v0 v1 v2 v3 M = some q → AW l m_J7_fill_53178 1 0 0 (x_Rv q) 0 0 5 [some (.ref v0), some (.int v1), some (.int v2), some (.int v3)] [] M := by
  intro n
  induction n with
  | zero => intro v0 v1 v2 v3 M H; cases H
  | succ n ih => intro v0 v1 v2 v3 M H; exact tb_J7_fill_53178_5 l ih H
def f_J7_fill_53178 (v0 : Nat) (v1 : Int32) (M : XM) : Option XM :=
  if x_tag M v0 = 1 then (lp_J7_fill_53178_5 x_fuel v0 v1 (0 : Int32) (Int32.ofNat (x_len M v0)) M) else none
set_option maxRecDepth 20000 in
set_option maxHeartbeats 4000000 in
theorem t_J7_fill_53178 (l : Launch) {v0 : Nat} {v1 : Int32} {M : XM} {q : XM} (H : f_J7_fill_53178 v0 v1 M = some q) : AW l m_J7_fill_53178 1 0 0 (x_Rv q) 0 0 0 [some (.ref v0), some (.int v1), none, none] [] M := by
  unfold f_J7_fill_53178 at H
  refine x_iconst 0 (0 : Int32) dJ7_fill_53178_0 (by decide) ?_
  refine x_istore_n 1 2 [some (.ref v0), some (.int v1), some (.int (0 : Int32)), none] dJ7_fill_53178_1 rfl rfl (Nat.le_of_ble_eq_true rfl) rfl ?_
  refine x_aload_n 2 0 dJ7_fill_53178_2 rfl rfl ?_
  obtain ⟨h1, H⟩ := x_ckp H
  refine x_alen 3 1 dJ7_fill_53178_3 h1 (by decide) ?_
  refine x_istore_n 4 3 [some (.ref v0), some (.int v1), some (.int (0 : Int32)), some (.int (Int32.ofNat (x_len M v0)))] dJ7_fill_53178_4 rfl rfl (Nat.le_of_ble_eq_true rfl) rfl ?_
  exact t_J7_fill_53178_5 l _ _ _ _ _ _ H

theorem ct_J7_fill_53178 (l : Launch) {v0 : Nat} {v1 : Int32} {M : XM} {q : XM} (H : f_J7_fill_53178 v0 v1 M = some q) : Ct l m_J7_fill_53178 1 0 0 [(.ref v0), (.int v1)] M (x_Rv q) := x_met l m_J7_fill_53178 1 0 0 [(.ref v0), (.int v1)] M (x_Rv q) _ rfl rfl (Nat.le_of_ble_eq_true rfl) (t_J7_fill_53178 l H)
theorem lk_95 : Cond.initialized RJ7 ∈ x_TB := x_tb (k := 95) (by decide +kernel) rfl
theorem lk_792 : Cond.code yJ7_fill_53178 cJ7_fill_53178 4 none ∈ x_TB := x_tb (k := 792) (by decide +kernel) rfl
theorem lk_790 : Cond.methodLink RX1 67 yJ7_fill_53178 ∈ x_TB := x_tb (k := 790) (by decide +kernel) rfl
theorem lk_791 : Cond.static yJ7_fill_53178 ∈ x_TB := x_tb (k := 791) (by decide +kernel) rfl
theorem lk_126 : Cond.fieldLink RX2 15 RX2 "a" "I" ∈ x_TB := x_tb (k := 126) (by decide +kernel) rfl
abbrev m_X2_leftAt : XU := (yX2_leftAt, cX2_leftAt, 6, (some .int))
theorem cn_X2_leftAt : m_X2_leftAt.1.cls ≠ "java/lang/invoke/MethodHandle" ∧ m_X2_leftAt.1.cls ≠ "java/lang/invoke/VarHandle" ∧ (parseMethodDescriptor m_X2_leftAt.1.desc).map (fun q => q.parameters.length) = some 3 := by decide +kernel
def f_X2_leftAt_37 (v0 : Nat) (v1 : Int32) (v4 : Int32) (s0 : Int32) (M : XM) : Option (Int32 × XM) :=
  if x_tag M v0 = 2 + 10 then (if (x_i M v0 0) = (1 : Int32) then (some (v4, M)) else if (x_i M v0 0) = (2 : Int32) then (some (v1, M)) else if (x_i M v0 0) = (3 : Int32) then (if ((x_i M v0 1) + (2 : Int32)) = 0 then none else some ((v1 - (v1 - v1 / ((x_i M v0 1) + (2 : Int32)) * ((x_i M v0 1) + (2 : Int32)))), M)) else if (x_i M v0 0) = (4 : Int32) then (if s0 = 0 then (some (v1, M)) else (some ((0 : Int32), M))) else if (x_i M v0 0) = (5 : Int32) then (if (x_i M v0 1) < (v1 - v4) then (some (v4, M)) else (some (v1, M))) else if (x_i M v0 0) = (6 : Int32) then (if s0 = 0 then (some (v1, M)) else (some ((v1 / (2 : Int32)), M))) else some ((0 : Int32), M)) else none
set_option maxRecDepth 20000 in
set_option maxHeartbeats 4000000 in
theorem t_X2_leftAt_37 (l : Launch) {v0 : Nat} {v1 : Int32} {v4 : Int32} {s0 : Int32} {M : XM} {q : Int32 × XM} (H : f_X2_leftAt_37 v0 v1 v4 s0 M = some q) : AW l m_X2_leftAt 1 0 0 (x_Ri q) 0 0 37 [some (.ref v0), some (.int v1), none, none, some (.int v4), none] [(.int s0)] M := by
  unfold f_X2_leftAt_37 at H
  refine x_istore 37 5 [some (.ref v0), some (.int v1), none, none, some (.int v4), some (.int s0)] dX2_leftAt_37 rfl (Nat.le_of_ble_eq_true rfl) rfl ?_
  refine x_aload_n 39 0 dX2_leftAt_39 rfl rfl ?_
  obtain ⟨h7, H⟩ := x_ckp H
  refine x_getf 40 9 2 0 (.int (x_i M v0 0)) dX2_leftAt_40 lk_123 (by decide) (by decide) rfl (fun _ => rfl) h7 ?_
  by_cases c8 : (x_i M v0 0) = (1 : Int32)
  · replace H := x_ifp c8 H
    refine x_tableIn (off := 37) 43 80 dX2_leftAt_43 (by rw [c8]; decide) (by rw [c8]; decide) (by rw [c8]; rfl) (by decide) ?_
    refine x_iload 80 4 dX2_leftAt_80 rfl ?_
    cases H
    exact x_iret 82 dX2_leftAt_82 .int rfl rfl (Nat.le_of_ble_eq_true rfl) (Nat.le_of_ble_eq_true rfl) ⟨rfl, rfl⟩
  · replace H := x_ifn c8 H
    by_cases c9 : (x_i M v0 0) = (2 : Int32)
    · replace H := x_ifp c9 H
      refine x_tableIn (off := 40) 43 83 dX2_leftAt_43 (by rw [c9]; decide) (by rw [c9]; decide) (by rw [c9]; rfl) (by decide) ?_
      refine x_iload_n 83 1 dX2_leftAt_83 rfl rfl ?_
      cases H
      exact x_iret 84 dX2_leftAt_84 .int rfl rfl (Nat.le_of_ble_eq_true rfl) (Nat.le_of_ble_eq_true rfl) ⟨rfl, rfl⟩
    · replace H := x_ifn c9 H
      by_cases c10 : (x_i M v0 0) = (3 : Int32)
      · replace H := x_ifp c10 H
        refine x_tableIn (off := 42) 43 85 dX2_leftAt_43 (by rw [c10]; decide) (by rw [c10]; decide) (by rw [c10]; rfl) (by decide) ?_
        refine x_iload_n 85 1 dX2_leftAt_85 rfl rfl ?_
        refine x_iload_n 86 1 dX2_leftAt_86 rfl rfl ?_
        refine x_aload_n 87 0 dX2_leftAt_87 rfl rfl ?_
        refine x_getf 88 15 2 1 (.int (x_i M v0 1)) dX2_leftAt_88 lk_126 (by decide) (by decide) rfl (fun _ => rfl) h7 ?_
        refine x_iconst 91 (2 : Int32) dX2_leftAt_91 (by decide) ?_
        refine x_iadd 92 dX2_leftAt_92 ?_
        obtain ⟨h11, H⟩ := x_cnz H
        refine x_irem 93 dX2_leftAt_93 h11 ?_
        refine x_isub 94 dX2_leftAt_94 ?_
        cases H
        exact x_iret 95 dX2_leftAt_95 .int rfl rfl (Nat.le_of_ble_eq_true rfl) (Nat.le_of_ble_eq_true rfl) ⟨rfl, rfl⟩
      · replace H := x_ifn c10 H
        by_cases c12 : (x_i M v0 0) = (4 : Int32)
        · replace H := x_ifp c12 H
          refine x_tableIn (off := 53) 43 96 dX2_leftAt_43 (by rw [c12]; decide) (by rw [c12]; decide) (by rw [c12]; rfl) (by decide) ?_
          refine x_iload 96 5 dX2_leftAt_96 rfl ?_
          refine x_if_eq 98 105 dX2_leftAt_98 (by decide) (fun c13 => ?_) (fun c13 => ?_)
          · replace H := x_ifp c13 H
            refine x_iload_n 105 1 dX2_leftAt_105 rfl rfl ?_
            cases H
            exact x_iret 106 dX2_leftAt_106 .int rfl rfl (Nat.le_of_ble_eq_true rfl) (Nat.le_of_ble_eq_true rfl) ⟨rfl, rfl⟩
          · replace H := x_ifn c13 H
            refine x_iconst 101 (0 : Int32) dX2_leftAt_101 (by decide) ?_
            refine x_goto 102 106 dX2_leftAt_102 (by decide) ?_
            cases H
            exact x_iret 106 dX2_leftAt_106 .int rfl rfl (Nat.le_of_ble_eq_true rfl) (Nat.le_of_ble_eq_true rfl) ⟨rfl, rfl⟩
        · replace H := x_ifn c12 H
          by_cases c14 : (x_i M v0 0) = (5 : Int32)
          · replace H := x_ifp c14 H
            refine x_tableIn (off := 64) 43 107 dX2_leftAt_43 (by rw [c14]; decide) (by rw [c14]; decide) (by rw [c14]; rfl) (by decide) ?_
            refine x_iload_n 107 1 dX2_leftAt_107 rfl rfl ?_
            refine x_iload 108 4 dX2_leftAt_108 rfl ?_
            refine x_isub 110 dX2_leftAt_110 ?_
            refine x_aload_n 111 0 dX2_leftAt_111 rfl rfl ?_
            refine x_getf 112 15 2 1 (.int (x_i M v0 1)) dX2_leftAt_112 lk_126 (by decide) (by decide) rfl (fun _ => rfl) h7 ?_
            refine x_icmp_gt 115 122 dX2_leftAt_115 (by decide) (fun c15 => ?_) (fun c15 => ?_)
            · replace H := x_ifp c15 H
              refine x_iload 122 4 dX2_leftAt_122 rfl ?_
              cases H
              exact x_iret 124 dX2_leftAt_124 .int rfl rfl (Nat.le_of_ble_eq_true rfl) (Nat.le_of_ble_eq_true rfl) ⟨rfl, rfl⟩
            · replace H := x_ifn c15 H
              refine x_iload_n 118 1 dX2_leftAt_118 rfl rfl ?_
              refine x_goto 119 124 dX2_leftAt_119 (by decide) ?_
              cases H
              exact x_iret 124 dX2_leftAt_124 .int rfl rfl (Nat.le_of_ble_eq_true rfl) (Nat.le_of_ble_eq_true rfl) ⟨rfl, rfl⟩
          · replace H := x_ifn c14 H
            by_cases c16 : (x_i M v0 0) = (6 : Int32)
            · replace H := x_ifp c16 H
              refine x_tableIn (off := 82) 43 125 dX2_leftAt_43 (by rw [c16]; decide) (by rw [c16]; decide) (by rw [c16]; rfl) (by decide) ?_
              refine x_iload 125 5 dX2_leftAt_125 rfl ?_
              refine x_if_eq 127 136 dX2_leftAt_127 (by decide) (fun c17 => ?_) (fun c17 => ?_)
              · replace H := x_ifp c17 H
                refine x_iload_n 136 1 dX2_leftAt_136 rfl rfl ?_
                cases H
                exact x_iret 137 dX2_leftAt_137 .int rfl rfl (Nat.le_of_ble_eq_true rfl) (Nat.le_of_ble_eq_true rfl) ⟨rfl, rfl⟩
              · replace H := x_ifn c17 H
                refine x_iload_n 130 1 dX2_leftAt_130 rfl rfl ?_
                refine x_iconst 131 (2 : Int32) dX2_leftAt_131 (by decide) ?_
                refine x_idiv 132 dX2_leftAt_132 (by decide) ?_
                refine x_goto 133 137 dX2_leftAt_133 (by decide) ?_
                cases H
                exact x_iret 137 dX2_leftAt_137 .int rfl rfl (Nat.le_of_ble_eq_true rfl) (Nat.le_of_ble_eq_true rfl) ⟨rfl, rfl⟩
            · replace H := x_ifn c16 H
              refine x_tableOut 43 138 dX2_leftAt_43 (by have n0 := lv_neT (a := 1) c8 (by decide); have n1 := lv_neT (a := 2) c9 (by decide); have n2 := lv_neT (a := 3) c10 (by decide); have n3 := lv_neT (a := 4) c12 (by decide); have n4 := lv_neT (a := 5) c14 (by decide); have n5 := lv_neT (a := 6) c16 (by decide); omega) (by decide) ?_
              refine x_iconst 138 (0 : Int32) dX2_leftAt_138 (by decide) ?_
              cases H
              exact x_iret 139 dX2_leftAt_139 .int rfl rfl (Nat.le_of_ble_eq_true rfl) (Nat.le_of_ble_eq_true rfl) ⟨rfl, rfl⟩

def f_X2_leftAt (v0 : Nat) (v1 : Int32) (v2 : Int32) (v3 : Int32) (M : XM) : Option (Int32 × XM) :=
  if v3 < (1 : Int32) then (some (v1, M)) else (if x_tag M v0 = 2 + 10 then (if (0 : Int32) ≤ (x_i M v0 1) then (if v3 = 0 then none else if ((x_i M v0 1) + (1 : Int32)) = 0 then none else if (v2 - v2 / ((x_i M v0 1) + (1 : Int32)) * ((x_i M v0 1) + (1 : Int32))) = 0 then (f_X2_leftAt_37 v0 v1 (v1 - (v1 - v1 / v3 * v3)) (1 : Int32) M) else (f_X2_leftAt_37 v0 v1 (v1 - (v1 - v1 / v3 * v3)) (0 : Int32) M)) else (some (v1, M))) else none)
set_option maxRecDepth 20000 in
set_option maxHeartbeats 4000000 in
theorem t_X2_leftAt (l : Launch) {v0 : Nat} {v1 : Int32} {v2 : Int32} {v3 : Int32} {M : XM} {q : Int32 × XM} (H : f_X2_leftAt v0 v1 v2 v3 M = some q) : AW l m_X2_leftAt 1 0 0 (x_Ri q) 0 0 0 [some (.ref v0), some (.int v1), some (.int v2), some (.int v3), none, none] [] M := by
  unfold f_X2_leftAt at H
  refine x_iload_n 0 3 dX2_leftAt_0 rfl rfl ?_
  refine x_iconst 1 (1 : Int32) dX2_leftAt_1 (by decide) ?_
  refine x_icmp_lt 2 12 dX2_leftAt_2 (by decide) (fun c1 => ?_) (fun c1 => ?_)
  · replace H := x_ifp c1 H
    refine x_iload_n 12 1 dX2_leftAt_12 rfl rfl ?_
    cases H
    exact x_iret 13 dX2_leftAt_13 .int rfl rfl (Nat.le_of_ble_eq_true rfl) (Nat.le_of_ble_eq_true rfl) ⟨rfl, rfl⟩
  · replace H := x_ifn c1 H
    refine x_aload_n 5 0 dX2_leftAt_5 rfl rfl ?_
    obtain ⟨h2, H⟩ := x_ckp H
    refine x_getf 6 15 2 1 (.int (x_i M v0 1)) dX2_leftAt_6 lk_126 (by decide) (by decide) rfl (fun _ => rfl) h2 ?_
    refine x_if_ge 9 14 dX2_leftAt_9 (by decide) (fun c3 => ?_) (fun c3 => ?_)
    · replace H := x_ifp c3 H
      refine x_iload_n 14 1 dX2_leftAt_14 rfl rfl ?_
      refine x_iload_n 15 1 dX2_leftAt_15 rfl rfl ?_
      refine x_iload_n 16 3 dX2_leftAt_16 rfl rfl ?_
      obtain ⟨h4, H⟩ := x_cnz H
      refine x_irem 17 dX2_leftAt_17 h4 ?_
      refine x_isub 18 dX2_leftAt_18 ?_
      refine x_istore 19 4 [some (.ref v0), some (.int v1), some (.int v2), some (.int v3), some (.int (v1 - (v1 - v1 / v3 * v3))), none] dX2_leftAt_19 rfl (Nat.le_of_ble_eq_true rfl) rfl ?_
      refine x_iload_n 21 2 dX2_leftAt_21 rfl rfl ?_
      refine x_aload_n 22 0 dX2_leftAt_22 rfl rfl ?_
      refine x_getf 23 15 2 1 (.int (x_i M v0 1)) dX2_leftAt_23 lk_126 (by decide) (by decide) rfl (fun _ => rfl) h2 ?_
      refine x_iconst 26 (1 : Int32) dX2_leftAt_26 (by decide) ?_
      refine x_iadd 27 dX2_leftAt_27 ?_
      obtain ⟨h5, H⟩ := x_cnz H
      refine x_irem 28 dX2_leftAt_28 h5 ?_
      refine x_if_ne 29 36 dX2_leftAt_29 (by decide) (fun c6 => ?_) (fun c6 => ?_)
      · replace H := x_ifn c6 H
        refine x_iconst 36 (0 : Int32) dX2_leftAt_36 (by decide) ?_
        exact x_wk (le_s (le_s (le_n (le_n (le_s (le_s le_0)))))) (t_X2_leftAt_37 l H)
      · replace H := x_ifp c6 H
        refine x_iconst 32 (1 : Int32) dX2_leftAt_32 (by decide) ?_
        refine x_goto 33 37 dX2_leftAt_33 (by decide) ?_
        exact x_wk (le_s (le_s (le_n (le_n (le_s (le_s le_0)))))) (t_X2_leftAt_37 l H)
    · replace H := x_ifn c3 H
      refine x_iload_n 12 1 dX2_leftAt_12 rfl rfl ?_
      cases H
      exact x_iret 13 dX2_leftAt_13 .int rfl rfl (Nat.le_of_ble_eq_true rfl) (Nat.le_of_ble_eq_true rfl) ⟨rfl, rfl⟩

theorem ct_X2_leftAt (l : Launch) {v0 : Nat} {v1 : Int32} {v2 : Int32} {v3 : Int32} {M : XM} {q : Int32 × XM} (H : f_X2_leftAt v0 v1 v2 v3 M = some q) : Ct l m_X2_leftAt 1 0 0 [(.ref v0), (.int v1), (.int v2), (.int v3)] M (x_Ri q) := x_met l m_X2_leftAt 1 0 0 [(.ref v0), (.int v1), (.int v2), (.int v3)] M (x_Ri q) _ rfl rfl (Nat.le_of_ble_eq_true rfl) (t_X2_leftAt l H)
theorem lk_713 : Cond.code yX2_leftAt cX2_leftAt 6 (some .int) ∈ x_TB := x_tb (k := 713) (by decide +kernel) rfl
theorem lk_797 : Cond.methodLink RX1 97 yX2_leftAt ∈ x_TB := x_tb (k := 797) (by decide +kernel) rfl
theorem lk_712 : Cond.selects RX2 yX2_leftAt yX2_leftAt ∈ x_TB := x_tb (k := 712) (by decide +kernel) rfl
theorem lk_711 : Cond.instanceMethod yX2_leftAt ∈ x_TB := x_tb (k := 711) (by decide +kernel) rfl
abbrev m_X1_noteLefts : XU := (yX1_noteLefts, cX1_noteLefts, 5, none)
theorem cn_X1_noteLefts : m_X1_noteLefts.1.cls ≠ "java/lang/invoke/MethodHandle" ∧ m_X1_noteLefts.1.cls ≠ "java/lang/invoke/VarHandle" ∧ (parseMethodDescriptor m_X1_noteLefts.1.desc).map (fun q => q.parameters.length) = some 2 := by decide +kernel
def f_X1_noteLefts_c41 (κ2 : Nat → Nat → Int32 → Int32 → XM → Option XM) (κ13 : Nat → Nat → Int32 → Int32 → Int32 → XM → Option XM) (v0 : Nat) (v1 : Nat) (v2 : Int32) (v3 : Int32) (v4 : Int32) (s1 : Int32) (s2 : Nat) (s0 : Int32) (M : XM) : Option XM :=
  if x_at M s2 1 s1 = true then (x_lt (x_wi M s2 s1.toNatClampNeg s0) (fun M10 => κ13 v0 v1 v2 v3 (v4 + (1 : Int32)) M10)) else none
set_option maxRecDepth 20000 in
set_option maxHeartbeats 4000000 in
theorem t_X1_noteLefts_c41 (l : Launch) {κ2 : Nat → Nat → Int32 → Int32 → XM → Option XM} {κ13 : Nat → Nat → Int32 → Int32 → Int32 → XM → Option XM} {v0 : Nat} {v1 : Nat} {v2 : Int32} {v3 : Int32} {v4 : Int32} {s1 : Int32} {s2 : Nat} {s0 : Int32} {M : XM} {q : XM} (hκ2 : ∀ (v0 : Nat) (v1 : Nat) (v2 : Int32) (v3 : Int32) (M : XM), κ2 v0 v1 v2 v3 M = some q → AW l m_X1_noteLefts 2 0 0 (x_Rv q) 0 0 2 [some (.ref v0), some (.ref v1), some (.int v2), some (.int v3), none] [] M) (hκ13 : ∀ (v0 : Nat) (v1 : Nat) (v2 : Int32) (v3 : Int32) (v4 : Int32) (M : XM), κ13 v0 v1 v2 v3 v4 M = some q → AW l m_X1_noteLefts 2 0 0 (x_Rv q) 0 0 13 [some (.ref v0), some (.ref v1), some (.int v2), some (.int v3), some (.int v4)] [] M) (H : f_X1_noteLefts_c41 κ2 κ13 v0 v1 v2 v3 v4 s1 s2 s0 M = some q) : AW l m_X1_noteLefts 2 0 0 (x_Rv q) 0 0 44 [some (.ref v0), some (.ref v1), some (.int v2), some (.int v3), some (.int v4)] [(.int s0), (.int s1), (.ref s2)] M := by
  unfold f_X1_noteLefts_c41 at H
  obtain ⟨h9, H⟩ := x_ckp H
  obtain ⟨M10, w11, H⟩ := x_lt_of H
  have h12 : x_at M10 s2 1 s1 = true := by rw [w11]; exact h9
  have h13 : x_tag M10 s2 = 1 := by rw [w11]; exact (x_at_1 h9)
  refine x_iast' 44 dX1_noteLefts_44 h9 w11 ?_
  refine x_iinc 45 4 (v4 + (1 : Int32)) [some (.ref v0), some (.ref v1), some (.int v2), some (.int v3), some (.int (v4 + (1 : Int32)))] dX1_noteLefts_45 rfl (congrArg (fun z : Int32 => v4 + z) (show Int32.ofInt (1) = (1 : Int32) by decide)) rfl (Nat.le_of_ble_eq_true rfl) rfl ?_
  refine x_goto 48 13 dX1_noteLefts_48 (by decide) ?_
  exact hκ13 _ _ _ _ _ _ H

def bd_X1_noteLefts_13 (κ2 : Nat → Nat → Int32 → Int32 → XM → Option XM) (κ13 : Nat → Nat → Int32 → Int32 → Int32 → XM → Option XM) (v0 : Nat) (v1 : Nat) (v2 : Int32) (v3 : Int32) (v4 : Int32) (M : XM) : Option XM :=
  if x_tag M v0 = 1 + 10 then (if (x_i M v0 3) ≤ v4 then (κ2 v0 v1 v2 (v3 + (1 : Int32)) M) else (if x_tag M v1 = 2 + 10 then (x_bd (f_X2_leftAt v1 v4 (v3 + (1 : Int32)) v2 M) (f_X1_noteLefts_c41 κ2 κ13 v0 v1 v2 v3 v4 ((v3 * (200 : Int32)) + v4) (x_r M v0 2))) else none)) else none
set_option maxRecDepth 20000 in
set_option maxHeartbeats 4000000 in
theorem tb_X1_noteLefts_13 (l : Launch) {κ2 : Nat → Nat → Int32 → Int32 → XM → Option XM} {κ13 : Nat → Nat → Int32 → Int32 → Int32 → XM → Option XM} {v0 : Nat} {v1 : Nat} {v2 : Int32} {v3 : Int32} {v4 : Int32} {M : XM} {q : XM} (hκ2 : ∀ (v0 : Nat) (v1 : Nat) (v2 : Int32) (v3 : Int32) (M : XM), κ2 v0 v1 v2 v3 M = some q → AW l m_X1_noteLefts 2 0 0 (x_Rv q) 0 0 2 [some (.ref v0), some (.ref v1), some (.int v2), some (.int v3), none] [] M) (hκ13 : ∀ (v0 : Nat) (v1 : Nat) (v2 : Int32) (v3 : Int32) (v4 : Int32) (M : XM), κ13 v0 v1 v2 v3 v4 M = some q → AW l m_X1_noteLefts 2 0 0 (x_Rv q) 0 0 13 [some (.ref v0), some (.ref v1), some (.int v2), some (.int v3), some (.int v4)] [] M) (H : bd_X1_noteLefts_13 κ2 κ13 v0 v1 v2 v3 v4 M = some q) : AW l m_X1_noteLefts 2 0 0 (x_Rv q) 0 0 13 [some (.ref v0), some (.ref v1), some (.int v2), some (.int v3), some (.int v4)] [] M := by
  unfold bd_X1_noteLefts_13 at H
  refine x_iload 13 4 dX1_noteLefts_13 rfl ?_
  refine x_aload_n 15 0 dX1_noteLefts_15 rfl rfl ?_
  obtain ⟨h3, H⟩ := x_ckp H
  refine x_getf 16 50 1 3 (.int (x_i M v0 3)) dX1_noteLefts_16 lk_274 (by decide) (by decide) rfl (fun _ => rfl) h3 ?_
  refine x_icmp_ge 19 51 dX1_noteLefts_19 (by decide) (fun c4 => ?_) (fun c4 => ?_)
  · replace H := x_ifp c4 H
    refine x_iinc 51 3 (v3 + (1 : Int32)) [some (.ref v0), some (.ref v1), some (.int v2), some (.int (v3 + (1 : Int32))), some (.int v4)] dX1_noteLefts_51 rfl (congrArg (fun z : Int32 => v3 + z) (show Int32.ofInt (1) = (1 : Int32) by decide)) rfl (Nat.le_of_ble_eq_true rfl) rfl ?_
    refine x_goto 54 2 dX1_noteLefts_54 (by decide) ?_
    exact x_wk (le_s (le_s (le_s (le_s (le_n le_0))))) (hκ2 _ _ _ _ _ H)
  · replace H := x_ifn c4 H
    refine x_aload_n 22 0 dX1_noteLefts_22 rfl rfl ?_
    refine x_getf 23 18 1 2 (.ref (x_r M v0 2)) dX1_noteLefts_23 lk_273 (by decide) (by decide) rfl (fun _ => rfl) h3 ?_
    refine x_iload_n 26 3 dX1_noteLefts_26 rfl rfl ?_
    refine x_sipush 27 (200 : Int32) dX1_noteLefts_27 (by decide) ?_
    refine x_imul 30 dX1_noteLefts_30 ?_
    refine x_iload 31 4 dX1_noteLefts_31 rfl ?_
    refine x_iadd 33 dX1_noteLefts_33 ?_
    refine x_aload_n 34 1 dX1_noteLefts_34 rfl rfl ?_
    refine x_iload 35 4 dX1_noteLefts_35 rfl ?_
    refine x_iload_n 37 3 dX1_noteLefts_37 rfl rfl ?_
    refine x_iconst 38 (1 : Int32) dX1_noteLefts_38 (by decide) ?_
    refine x_iadd 39 dX1_noteLefts_39 ?_
    refine x_iload_n 40 2 dX1_noteLefts_40 rfl rfl ?_
    obtain ⟨h5, H⟩ := x_ckp H
    obtain ⟨r7, M6, e8, H⟩ := x_bd_of H
    refine x_callV 41 97 2 [(.int v4), (.int (v3 + (1 : Int32))), (.int v2)] [(.int ((v3 * (200 : Int32)) + v4)), (.ref (x_r M v0 2))] dX1_noteLefts_41 (ct_X2_leftAt l e8) lk_797 lk_711 lk_712 (by decide) h5 lk_87 lk_713 ⟨cn_X2_leftAt, (by decide), by decide⟩ rfl (Nat.le_of_ble_eq_true rfl) (Nat.le_of_ble_eq_true rfl) (Nat.le_of_ble_eq_true rfl) (x_ri ?_)
    exact t_X1_noteLefts_c41 l hκ2 hκ13 H

def lp_X1_noteLefts_13 (κ2 : Nat → Nat → Int32 → Int32 → XM → Option XM) (n : Nat) : Nat → Nat → Int32 → Int32 → Int32 → XM → Option XM := x_rec (fun _ _ _ _ _ _ => none) (bd_X1_noteLefts_13 κ2) n
theorem t_X1_noteLefts_13 (l : Launch) {κ2 : Nat → Nat → Int32 → Int32 → XM → Option XM} {q : XM} (hκ2 : ∀ (v0 : Nat) (v1 : Nat) (v2 : Int32) (v3 : Int32) (M : XM), κ2 v0 v1 v2 v3 M = some q → AW l m_X1_noteLefts 2 0 0 (x_Rv q) 0 0 2 [some (.ref v0), some (.ref v1), some (.int v2), some (.int v3), none] [] M) : ∀ (n : Nat) (v0 : Nat) (v1 : Nat) (v2 : Int32) (v3 : Int32) (v4 : Int32) (M : XM), lp_X1_noteLefts_13 κ2 n v0 v1 v2 v3 v4 M = some q → AW l m_X1_noteLefts 2 0 0 (x_Rv q) 0 0 13 [some (.ref v0), some (.ref v1), some (.int v2), some (.int v3), some (.int v4)] [] M := by
  intro n
  induction n with
  | zero => intro v0 v1 v2 v3 v4 M H; cases H
  | succ n ih => intro v0 v1 v2 v3 v4 M H; exact tb_X1_noteLefts_13 l hκ2 ih H
def bd_X1_noteLefts_2 (κ2 : Nat → Nat → Int32 → Int32 → XM → Option XM) (v0 : Nat) (v1 : Nat) (v2 : Int32) (v3 : Int32) (M : XM) : Option XM :=
  if x_tag M v0 = 1 + 10 then (if (x_i M v0 5) ≤ v3 then (some M) else (lp_X1_noteLefts_13 κ2 x_fuel v0 v1 v2 v3 (0 : Int32) M)) else none
set_option maxRecDepth 20000 in
set_option maxHeartbeats 4000000 in
theorem tb_X1_noteLefts_2 (l : Launch) {κ2 : Nat → Nat → Int32 → Int32 → XM → Option XM} {v0 : Nat} {v1 : Nat} {v2 : Int32} {v3 : Int32} {M : XM} {q : XM} (hκ2 : ∀ (v0 : Nat) (v1 : Nat) (v2 : Int32) (v3 : Int32) (M : XM), κ2 v0 v1 v2 v3 M = some q → AW l m_X1_noteLefts 2 0 0 (x_Rv q) 0 0 2 [some (.ref v0), some (.ref v1), some (.int v2), some (.int v3), none] [] M) (H : bd_X1_noteLefts_2 κ2 v0 v1 v2 v3 M = some q) : AW l m_X1_noteLefts 2 0 0 (x_Rv q) 0 0 2 [some (.ref v0), some (.ref v1), some (.int v2), some (.int v3), none] [] M := by
  unfold bd_X1_noteLefts_2 at H
  refine x_iload_n 2 3 dX1_noteLefts_2 rfl rfl ?_
  refine x_aload_n 3 0 dX1_noteLefts_3 rfl rfl ?_
  obtain ⟨h1, H⟩ := x_ckp H
  refine x_getf 4 64 1 5 (.int (x_i M v0 5)) dX1_noteLefts_4 lk_276 (by decide) (by decide) rfl (fun _ => rfl) h1 ?_
  refine x_icmp_ge 7 57 dX1_noteLefts_7 (by decide) (fun c2 => ?_) (fun c2 => ?_)
  · replace H := x_ifp c2 H
    cases H
    exact x_vret 57 dX1_noteLefts_57 rfl (Nat.le_of_ble_eq_true rfl) (Nat.le_of_ble_eq_true rfl) ⟨rfl, rfl⟩
  · replace H := x_ifn c2 H
    refine x_iconst 10 (0 : Int32) dX1_noteLefts_10 (by decide) ?_
    refine x_istore 11 4 [some (.ref v0), some (.ref v1), some (.int v2), some (.int v3), some (.int (0 : Int32))] dX1_noteLefts_11 rfl (Nat.le_of_ble_eq_true rfl) rfl ?_
    exact t_X1_noteLefts_13 l hκ2 _ _ _ _ _ _ _ H

def lp_X1_noteLefts_2 (n : Nat) : Nat → Nat → Int32 → Int32 → XM → Option XM := x_rec (fun _ _ _ _ _ => none) (bd_X1_noteLefts_2) n
theorem t_X1_noteLefts_2 (l : Launch) {q : XM} : ∀ (n : Nat) (v0 : Nat) (v1 : Nat) (v2 : Int32) (v3 : Int32) (M : XM), lp_X1_noteLefts_2 n v0 v1 v2 v3 M = some q → AW l m_X1_noteLefts 2 0 0 (x_Rv q) 0 0 2 [some (.ref v0), some (.ref v1), some (.int v2), some (.int v3), none] [] M := by
  intro n
  induction n with
  | zero => intro v0 v1 v2 v3 M H; cases H
  | succ n ih => intro v0 v1 v2 v3 M H; exact tb_X1_noteLefts_2 l ih H
def f_X1_noteLefts (v0 : Nat) (v1 : Nat) (v2 : Int32) (M : XM) : Option XM :=
  lp_X1_noteLefts_2 x_fuel v0 v1 v2 (0 : Int32) M
set_option maxRecDepth 20000 in
set_option maxHeartbeats 4000000 in
theorem t_X1_noteLefts (l : Launch) {v0 : Nat} {v1 : Nat} {v2 : Int32} {M : XM} {q : XM} (H : f_X1_noteLefts v0 v1 v2 M = some q) : AW l m_X1_noteLefts 2 0 0 (x_Rv q) 0 0 0 [some (.ref v0), some (.ref v1), some (.int v2), none, none] [] M := by
  unfold f_X1_noteLefts at H
  refine x_iconst 0 (0 : Int32) dX1_noteLefts_0 (by decide) ?_
  refine x_istore_n 1 3 [some (.ref v0), some (.ref v1), some (.int v2), some (.int (0 : Int32)), none] dX1_noteLefts_1 rfl rfl (Nat.le_of_ble_eq_true rfl) rfl ?_
  exact t_X1_noteLefts_2 l _ _ _ _ _ _ H

theorem ct_X1_noteLefts (l : Launch) {v0 : Nat} {v1 : Nat} {v2 : Int32} {M : XM} {q : XM} (H : f_X1_noteLefts v0 v1 v2 M = some q) : Ct l m_X1_noteLefts 2 0 0 [(.ref v0), (.ref v1), (.int v2)] M (x_Rv q) := x_met l m_X1_noteLefts 2 0 0 [(.ref v0), (.ref v1), (.int v2)] M (x_Rv q) _ rfl rfl (Nat.le_of_ble_eq_true rfl) (t_X1_noteLefts l H)
theorem lk_90 : Cond.initialized RX1 ∈ x_TB := x_tb (k := 90) (by decide +kernel) rfl
theorem lk_796 : Cond.code yX1_noteLefts cX1_noteLefts 5 none ∈ x_TB := x_tb (k := 796) (by decide +kernel) rfl
theorem lk_793 : Cond.methodLink RX1 73 yX1_noteLefts ∈ x_TB := x_tb (k := 793) (by decide +kernel) rfl
theorem lk_19 : Cond.selects RX1 yX1_noteLefts yX1_noteLefts ∈ x_TB := x_tb (k := 19) (by decide +kernel) rfl
theorem lk_795 : Cond.instanceMethod yX1_noteLefts ∈ x_TB := x_tb (k := 795) (by decide +kernel) rfl
theorem lk_277 : Cond.fieldLink RX1 34 RX1 "arrived" "I" ∈ x_TB := x_tb (k := 277) (by decide +kernel) rfl
theorem lk_278 : Cond.fieldLink RX1 77 RX1 "low" "I" ∈ x_TB := x_tb (k := 278) (by decide +kernel) rfl
theorem lk_279 : Cond.fieldLink RX1 80 RX1 "high" "I" ∈ x_TB := x_tb (k := 279) (by decide +kernel) rfl
theorem lk_154 : Cond.fieldLink RX4 11 RX4 "counters" "[LWhatDidYouSay$Counter;" ∈ x_TB := x_tb (k := 154) (by decide +kernel) rfl
theorem lk_134 : Cond.fieldLink RX4 58 RX2 "at" "I" ∈ x_TB := x_tb (k := 134) (by decide +kernel) rfl
theorem lk_162 : Cond.fieldLink RX4 17 RX4 "n" "I" ∈ x_TB := x_tb (k := 162) (by decide +kernel) rfl
abbrev m_X4_isThrough : XU := (yX4_isThrough, cX4_isThrough, 2, (some .boolean))
theorem cn_X4_isThrough : m_X4_isThrough.1.cls ≠ "java/lang/invoke/MethodHandle" ∧ m_X4_isThrough.1.cls ≠ "java/lang/invoke/VarHandle" ∧ (parseMethodDescriptor m_X4_isThrough.1.desc).map (fun q => q.parameters.length) = some 1 := by decide +kernel
def f_X4_isThrough (v0 : Nat) (v1 : Int32) (M : XM) : Option (Int32 × XM) :=
  if x_tag M v0 = 4 + 10 then (if x_at M (x_r M v0 0) 3 v1 = true then (if x_tag M (x_r M (x_r M v0 0) v1.toNatClampNeg) = 2 + 10 then (if (x_i M (x_r M (x_r M v0 0) v1.toNatClampNeg) 2) < (x_i M v0 2) then (some ((0 : Int32), M)) else (some ((1 : Int32), M))) else none) else none) else none
set_option maxRecDepth 20000 in
set_option maxHeartbeats 4000000 in
theorem t_X4_isThrough (l : Launch) {v0 : Nat} {v1 : Int32} {M : XM} {q : Int32 × XM} (H : f_X4_isThrough v0 v1 M = some q) : AW l m_X4_isThrough 1 0 0 (x_Ri q) 0 0 0 [some (.ref v0), some (.int v1)] [] M := by
  unfold f_X4_isThrough at H
  refine x_aload_n 0 0 dX4_isThrough_0 rfl rfl ?_
  obtain ⟨h1, H⟩ := x_ckp H
  refine x_getf 1 11 4 0 (.ref (x_r M v0 0)) dX4_isThrough_1 lk_154 (by decide) (by decide) rfl (fun _ => rfl) h1 ?_
  refine x_iload_n 4 1 dX4_isThrough_4 rfl rfl ?_
  obtain ⟨h2, H⟩ := x_ckp H
  refine x_aald3 5 dX4_isThrough_5 h2 ?_
  obtain ⟨h3, H⟩ := x_ckp H
  refine x_getf 6 58 2 2 (.int (x_i M (x_r M (x_r M v0 0) v1.toNatClampNeg) 2)) dX4_isThrough_6 lk_134 (by decide) (by decide) rfl (fun _ => rfl) h3 ?_
  refine x_aload_n 9 0 dX4_isThrough_9 rfl rfl ?_
  refine x_getf 10 17 4 2 (.int (x_i M v0 2)) dX4_isThrough_10 lk_162 (by decide) (by decide) rfl (fun _ => rfl) h1 ?_
  refine x_icmp_lt 13 20 dX4_isThrough_13 (by decide) (fun c4 => ?_) (fun c4 => ?_)
  · replace H := x_ifp c4 H
    refine x_iconst 20 (0 : Int32) dX4_isThrough_20 (by decide) ?_
    cases H
    exact x_iret 21 dX4_isThrough_21 .boolean rfl rfl (Nat.le_of_ble_eq_true rfl) (Nat.le_of_ble_eq_true rfl) ⟨rfl, rfl⟩
  · replace H := x_ifn c4 H
    refine x_iconst 16 (1 : Int32) dX4_isThrough_16 (by decide) ?_
    refine x_goto 17 21 dX4_isThrough_17 (by decide) ?_
    cases H
    exact x_iret 21 dX4_isThrough_21 .boolean rfl rfl (Nat.le_of_ble_eq_true rfl) (Nat.le_of_ble_eq_true rfl) ⟨rfl, rfl⟩

theorem ct_X4_isThrough (l : Launch) {v0 : Nat} {v1 : Int32} {M : XM} {q : Int32 × XM} (H : f_X4_isThrough v0 v1 M = some q) : Ct l m_X4_isThrough 1 0 0 [(.ref v0), (.int v1)] M (x_Ri q) := x_met l m_X4_isThrough 1 0 0 [(.ref v0), (.int v1)] M (x_Ri q) _ rfl rfl (Nat.le_of_ble_eq_true rfl) (t_X4_isThrough l H)
theorem lk_86 : Cond.initialized RX4 ∈ x_TB := x_tb (k := 86) (by decide +kernel) rfl
theorem lk_700 : Cond.code yX4_isThrough cX4_isThrough 2 (some .boolean) ∈ x_TB := x_tb (k := 700) (by decide +kernel) rfl
theorem lk_798 : Cond.methodLink RX1 83 yX4_isThrough ∈ x_TB := x_tb (k := 798) (by decide +kernel) rfl
theorem lk_699 : Cond.selects RX4 yX4_isThrough yX4_isThrough ∈ x_TB := x_tb (k := 699) (by decide +kernel) rfl
theorem lk_698 : Cond.instanceMethod yX4_isThrough ∈ x_TB := x_tb (k := 698) (by decide +kernel) rfl
theorem lk_140 : Cond.fieldLink RX1 88 RX2 "heard" "I" ∈ x_TB := x_tb (k := 140) (by decide +kernel) rfl
abbrev m_X8_leftOver : XU := (yX8_leftOver, cX8_leftOver, 2, (some .int))
theorem cn_X8_leftOver : m_X8_leftOver.1.cls ≠ "java/lang/invoke/MethodHandle" ∧ m_X8_leftOver.1.cls ≠ "java/lang/invoke/VarHandle" ∧ (parseMethodDescriptor m_X8_leftOver.1.desc).map (fun q => q.parameters.length) = some 2 := by decide +kernel
def f_X8_leftOver (v0 : Int32) (v1 : Int32) (M : XM) : Option (Int32 × XM) :=
  if (1 : Int32) ≤ v1 then (if v1 = 0 then none else some ((v0 - v0 / v1 * v1), M)) else (some ((0 : Int32), M))
set_option maxRecDepth 20000 in
set_option maxHeartbeats 4000000 in
theorem t_X8_leftOver (l : Launch) {v0 : Int32} {v1 : Int32} {M : XM} {q : Int32 × XM} (H : f_X8_leftOver v0 v1 M = some q) : AW l m_X8_leftOver 1 0 0 (x_Ri q) 0 0 0 [some (.int v0), some (.int v1)] [] M := by
  unfold f_X8_leftOver at H
  refine x_iload_n 0 1 dX8_leftOver_0 rfl rfl ?_
  refine x_iconst 1 (1 : Int32) dX8_leftOver_1 (by decide) ?_
  refine x_icmp_ge 2 9 dX8_leftOver_2 (by decide) (fun c1 => ?_) (fun c1 => ?_)
  · replace H := x_ifp c1 H
    refine x_iload_n 9 0 dX8_leftOver_9 rfl rfl ?_
    refine x_iload_n 10 1 dX8_leftOver_10 rfl rfl ?_
    obtain ⟨h2, H⟩ := x_cnz H
    refine x_irem 11 dX8_leftOver_11 h2 ?_
    cases H
    exact x_iret 12 dX8_leftOver_12 .int rfl rfl (Nat.le_of_ble_eq_true rfl) (Nat.le_of_ble_eq_true rfl) ⟨rfl, rfl⟩
  · replace H := x_ifn c1 H
    refine x_iconst 5 (0 : Int32) dX8_leftOver_5 (by decide) ?_
    refine x_goto 6 12 dX8_leftOver_6 (by decide) ?_
    cases H
    exact x_iret 12 dX8_leftOver_12 .int rfl rfl (Nat.le_of_ble_eq_true rfl) (Nat.le_of_ble_eq_true rfl) ⟨rfl, rfl⟩

theorem ct_X8_leftOver (l : Launch) {v0 : Int32} {v1 : Int32} {M : XM} {q : Int32 × XM} (H : f_X8_leftOver v0 v1 M = some q) : Ct l m_X8_leftOver 1 0 0 [(.int v0), (.int v1)] M (x_Ri q) := x_met l m_X8_leftOver 1 0 0 [(.int v0), (.int v1)] M (x_Ri q) _ rfl rfl (Nat.le_of_ble_eq_true rfl) (t_X8_leftOver l H)
