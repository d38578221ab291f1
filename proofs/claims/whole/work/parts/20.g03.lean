theorem lk_680 : Cond.code yX5_readNumber cX5_readNumber 5 (some .int) ∈ x_TB := x_tb (k := 680) (by decide +kernel) rfl
theorem lk_677 : Cond.methodLink RX5 82 yX5_readNumber ∈ x_TB := x_tb (k := 677) (by decide +kernel) rfl
theorem lk_11 : Cond.selects RX5 yX5_readNumber yX5_readNumber ∈ x_TB := x_tb (k := 11) (by decide +kernel) rfl
theorem lk_679 : Cond.instanceMethod yX5_readNumber ∈ x_TB := x_tb (k := 679) (by decide +kernel) rfl
theorem lk_525 : Cond.code yX4_addCounter cX4_addCounter 3 (some .int) ∈ x_TB := x_tb (k := 525) (by decide +kernel) rfl
theorem lk_681 : Cond.methodLink RX5 85 yX4_addCounter ∈ x_TB := x_tb (k := 681) (by decide +kernel) rfl
theorem lk_524 : Cond.selects RX4 yX4_addCounter yX4_addCounter ∈ x_TB := x_tb (k := 524) (by decide +kernel) rfl
theorem lk_523 : Cond.instanceMethod yX4_addCounter ∈ x_TB := x_tb (k := 523) (by decide +kernel) rfl
abbrev m_X5_readCounter : XU := (yX5_readCounter, cX5_readCounter, 3, none)
theorem cn_X5_readCounter : m_X5_readCounter.1.cls ≠ "java/lang/invoke/MethodHandle" ∧ m_X5_readCounter.1.cls ≠ "java/lang/invoke/VarHandle" ∧ (parseMethodDescriptor m_X5_readCounter.1.desc).map (fun q => q.parameters.length) = some 0 := by decide +kernel
def f_X5_readCounter (v0 : Nat) (M : XM) : Option XM :=
  if x_tag M 2 = 5 then (if x_tag M v0 = 5 + 10 then (x_bd (f_X5_readNumber v0 (0 : Int32) ((Int32.ofNat (x_len M 2)) - (1 : Int32)) M) (fun r4 M3 => if x_tag M3 v0 = 5 + 10 then (x_bv (f_X5_expect v0 (32 : Int32) M3) (fun M7 => if x_tag M7 v0 = 5 + 10 then (x_bd (f_X5_readNumber v0 (0 : Int32) (9 : Int32) M7) (fun r12 M11 => if x_tag M11 v0 = 5 + 10 then (if (x_i M11 v0 0) = (-1 : Int32) then (if x_tag M11 (x_r M11 v0 1) = 4 + 10 then (x_bd (f_X4_addCounter (x_r M11 v0 1) r4 r12 M11) (fun r18 M17 => some M17)) else none) else (some M11)) else none)) else none)) else none)) else none) else none
set_option maxRecDepth 20000 in
set_option maxHeartbeats 4000000 in
theorem t_X5_readCounter (l : Launch) {v0 : Nat} {M : XM} {q : XM} (H : f_X5_readCounter v0 M = some q) : AW l m_X5_readCounter 4 0 0 (x_Rv q) 0 0 0 [some (.ref v0), none, none] [] M := by
  unfold f_X5_readCounter at H
  refine x_aload_n 0 0 dX5_readCounter_0 rfl rfl ?_
  refine x_iconst 1 (0 : Int32) dX5_readCounter_1 (by decide) ?_
  refine x_getsN 2 79 2 "ABOVE" "[I" dX5_readCounter_2 "WhatDidYouSay" "WhatDidYouSay" x_ZA (List.mem_of_getElem? (i := 0) rfl) ?_
  obtain ⟨h1, H⟩ := x_ckp H
  refine x_salen 5 dX5_readCounter_5 h1 (by decide) ?_
  refine x_iconst 6 (1 : Int32) dX5_readCounter_6 (by decide) ?_
  refine x_isub 7 dX5_readCounter_7 ?_
  obtain ⟨h2, H⟩ := x_ckp H
  obtain ⟨r4, M3, e5, H⟩ := x_bd_of H
  refine x_callV 8 82 5 [(.int (0 : Int32)), (.int ((Int32.ofNat (x_len M 2)) - (1 : Int32)))] [] dX5_readCounter_8 (ct_X5_readNumber l e5) lk_677 lk_679 lk_11 (by decide) h2 lk_88 lk_680 ⟨cn_X5_readNumber, (by decide), by decide⟩ rfl (Nat.le_of_ble_eq_true rfl) (Nat.le_of_ble_eq_true rfl) (Nat.le_of_ble_eq_true rfl) (x_ri ?_)
  refine x_istore_n 11 1 [some (.ref v0), some (.int r4), none] dX5_readCounter_11 rfl rfl (Nat.le_of_ble_eq_true rfl) rfl ?_
  refine x_aload_n 12 0 dX5_readCounter_12 rfl rfl ?_
  refine x_bipush 13 (32 : Int32) dX5_readCounter_13 (by decide) ?_
  obtain ⟨h6, H⟩ := x_ckp H
  obtain ⟨M7, e9, H⟩ := x_bv_of H
  refine x_callV 15 45 5 [(.int (32 : Int32))] [] dX5_readCounter_15 (ct_X5_expect l e9) lk_668 lk_670 lk_9 (by decide) h6 lk_88 lk_671 ⟨cn_X5_expect, (by decide), by decide⟩ rfl (Nat.le_of_ble_eq_true rfl) (Nat.le_of_ble_eq_true rfl) (Nat.le_of_ble_eq_true rfl) (x_rv ?_)
  refine x_aload_n 18 0 dX5_readCounter_18 rfl rfl ?_
  refine x_iconst 19 (0 : Int32) dX5_readCounter_19 (by decide) ?_
  refine x_bipush 20 (9 : Int32) dX5_readCounter_20 (by decide) ?_
  obtain ⟨h10, H⟩ := x_ckp H
  obtain ⟨r12, M11, e13, H⟩ := x_bd_of H
  refine x_callV 22 82 5 [(.int (0 : Int32)), (.int (9 : Int32))] [] dX5_readCounter_22 (ct_X5_readNumber l e13) lk_677 lk_679 lk_11 (by decide) h10 lk_88 lk_680 ⟨cn_X5_readNumber, (by decide), by decide⟩ rfl (Nat.le_of_ble_eq_true rfl) (Nat.le_of_ble_eq_true rfl) (Nat.le_of_ble_eq_true rfl) (x_ri ?_)
  refine x_istore_n 25 2 [some (.ref v0), some (.int r4), some (.int r12)] dX5_readCounter_25 rfl rfl (Nat.le_of_ble_eq_true rfl) rfl ?_
  refine x_aload_n 26 0 dX5_readCounter_26 rfl rfl ?_
  obtain ⟨h14, H⟩ := x_ckp H
  refine x_getf 27 9 5 0 (.int (x_i M11 v0 0)) dX5_readCounter_27 lk_212 (by decide) (by decide) rfl (fun _ => rfl) h14 ?_
  refine x_iconst 30 (-1 : Int32) dX5_readCounter_30 (by decide) ?_
  refine x_icmp_ne 31 44 dX5_readCounter_31 (by decide) (fun c15 => ?_) (fun c15 => ?_)
  · replace H := x_ifn c15 H
    cases H
    exact x_vret 44 dX5_readCounter_44 rfl (Nat.le_of_ble_eq_true rfl) (Nat.le_of_ble_eq_true rfl) ⟨rfl, rfl⟩
  · replace H := x_ifp c15 H
    refine x_aload_n 34 0 dX5_readCounter_34 rfl rfl ?_
    refine x_getf 35 19 5 1 (.ref (x_r M11 v0 1)) dX5_readCounter_35 lk_214 (by decide) (by decide) rfl (fun _ => rfl) h14 ?_
    refine x_iload_n 38 1 dX5_readCounter_38 rfl rfl ?_
    refine x_iload_n 39 2 dX5_readCounter_39 rfl rfl ?_
    obtain ⟨h16, H⟩ := x_ckp H
    obtain ⟨r18, M17, e19, H⟩ := x_bd_of H
    refine x_callV 40 85 4 [(.int r4), (.int r12)] [] dX5_readCounter_40 (ct_X4_addCounter l e19) lk_681 lk_523 lk_524 (by decide) h16 lk_86 lk_525 ⟨cn_X4_addCounter, (by decide), by decide⟩ rfl (Nat.le_of_ble_eq_true rfl) (Nat.le_of_ble_eq_true rfl) (Nat.le_of_ble_eq_true rfl) (x_ri ?_)
    refine x_pop 43 dX5_readCounter_43 rfl ?_
    cases H
    exact x_vret 44 dX5_readCounter_44 rfl (Nat.le_of_ble_eq_true rfl) (Nat.le_of_ble_eq_true rfl) ⟨rfl, rfl⟩

theorem ct_X5_readCounter (l : Launch) {v0 : Nat} {M : XM} {q : XM} (H : f_X5_readCounter v0 M = some q) : Ct l m_X5_readCounter 4 0 0 [(.ref v0)] M (x_Rv q) := x_met l m_X5_readCounter 4 0 0 [(.ref v0)] M (x_Rv q) _ rfl rfl (Nat.le_of_ble_eq_true rfl) (t_X5_readCounter l H)
theorem lk_675 : Cond.code yX5_readCounter cX5_readCounter 3 none ∈ x_TB := x_tb (k := 675) (by decide +kernel) rfl
theorem lk_672 : Cond.methodLink RX5 57 yX5_readCounter ∈ x_TB := x_tb (k := 672) (by decide +kernel) rfl
theorem lk_10 : Cond.selects RX5 yX5_readCounter yX5_readCounter ∈ x_TB := x_tb (k := 10) (by decide +kernel) rfl
theorem lk_674 : Cond.instanceMethod yX5_readCounter ∈ x_TB := x_tb (k := 674) (by decide +kernel) rfl
theorem lk_689 : Cond.code yX4_addTally cX4_addTally 2 (some .int) ∈ x_TB := x_tb (k := 689) (by decide +kernel) rfl
theorem lk_686 : Cond.methodLink RX5 88 yX4_addTally ∈ x_TB := x_tb (k := 686) (by decide +kernel) rfl
theorem lk_688 : Cond.selects RX4 yX4_addTally yX4_addTally ∈ x_TB := x_tb (k := 688) (by decide +kernel) rfl
theorem lk_687 : Cond.instanceMethod yX4_addTally ∈ x_TB := x_tb (k := 687) (by decide +kernel) rfl
abbrev m_X5_readTally : XU := (yX5_readTally, cX5_readTally, 2, none)
theorem cn_X5_readTally : m_X5_readTally.1.cls ≠ "java/lang/invoke/MethodHandle" ∧ m_X5_readTally.1.cls ≠ "java/lang/invoke/VarHandle" ∧ (parseMethodDescriptor m_X5_readTally.1.desc).map (fun q => q.parameters.length) = some 0 := by decide +kernel
def f_X5_readTally (v0 : Nat) (M : XM) : Option XM :=
  if x_tag M v0 = 5 + 10 then (x_bd (f_X5_readNumber v0 (0 : Int32) (9999 : Int32) M) (fun r3 M2 => if x_tag M2 v0 = 5 + 10 then (if (x_i M2 v0 0) = (-1 : Int32) then (if x_tag M2 (x_r M2 v0 1) = 4 + 10 then (x_bd (f_X4_addTally (x_r M2 v0 1) r3 M2) (fun r9 M8 => some M8)) else none) else (some M2)) else none)) else none
set_option maxRecDepth 20000 in
set_option maxHeartbeats 4000000 in
theorem t_X5_readTally (l : Launch) {v0 : Nat} {M : XM} {q : XM} (H : f_X5_readTally v0 M = some q) : AW l m_X5_readTally 2 0 0 (x_Rv q) 0 0 0 [some (.ref v0), none] [] M := by
  unfold f_X5_readTally at H
  refine x_aload_n 0 0 dX5_readTally_0 rfl rfl ?_
  refine x_iconst 1 (0 : Int32) dX5_readTally_1 (by decide) ?_
  refine x_sipush 2 (9999 : Int32) dX5_readTally_2 (by decide) ?_
  obtain ⟨h1, H⟩ := x_ckp H
  obtain ⟨r3, M2, e4, H⟩ := x_bd_of H
  refine x_callV 5 82 5 [(.int (0 : Int32)), (.int (9999 : Int32))] [] dX5_readTally_5 (ct_X5_readNumber l e4) lk_677 lk_679 lk_11 (by decide) h1 lk_88 lk_680 ⟨cn_X5_readNumber, (by decide), by decide⟩ rfl (Nat.le_of_ble_eq_true rfl) (Nat.le_of_ble_eq_true rfl) (Nat.le_of_ble_eq_true rfl) (x_ri ?_)
  refine x_istore_n 8 1 [some (.ref v0), some (.int r3)] dX5_readTally_8 rfl rfl (Nat.le_of_ble_eq_true rfl) rfl ?_
  refine x_aload_n 9 0 dX5_readTally_9 rfl rfl ?_
  obtain ⟨h5, H⟩ := x_ckp H
  refine x_getf 10 9 5 0 (.int (x_i M2 v0 0)) dX5_readTally_10 lk_212 (by decide) (by decide) rfl (fun _ => rfl) h5 ?_
  refine x_iconst 13 (-1 : Int32) dX5_readTally_13 (by decide) ?_
  refine x_icmp_ne 14 26 dX5_readTally_14 (by decide) (fun c6 => ?_) (fun c6 => ?_)
  · replace H := x_ifn c6 H
    cases H
    exact x_vret 26 dX5_readTally_26 rfl (Nat.le_of_ble_eq_true rfl) (Nat.le_of_ble_eq_true rfl) ⟨rfl, rfl⟩
  · replace H := x_ifp c6 H
    refine x_aload_n 17 0 dX5_readTally_17 rfl rfl ?_
    refine x_getf 18 19 5 1 (.ref (x_r M2 v0 1)) dX5_readTally_18 lk_214 (by decide) (by decide) rfl (fun _ => rfl) h5 ?_
    refine x_iload_n 21 1 dX5_readTally_21 rfl rfl ?_
    obtain ⟨h7, H⟩ := x_ckp H
    obtain ⟨r9, M8, e10, H⟩ := x_bd_of H
    refine x_callV 22 88 4 [(.int r3)] [] dX5_readTally_22 (ct_X4_addTally l e10) lk_686 lk_687 lk_688 (by decide) h7 lk_86 lk_689 ⟨cn_X4_addTally, (by decide), by decide⟩ rfl (Nat.le_of_ble_eq_true rfl) (Nat.le_of_ble_eq_true rfl) (Nat.le_of_ble_eq_true rfl) (x_ri ?_)
    refine x_pop 25 dX5_readTally_25 rfl ?_
    cases H
    exact x_vret 26 dX5_readTally_26 rfl (Nat.le_of_ble_eq_true rfl) (Nat.le_of_ble_eq_true rfl) ⟨rfl, rfl⟩

theorem ct_X5_readTally (l : Launch) {v0 : Nat} {M : XM} {q : XM} (H : f_X5_readTally v0 M = some q) : Ct l m_X5_readTally 2 0 0 [(.ref v0)] M (x_Rv q) := x_met l m_X5_readTally 2 0 0 [(.ref v0)] M (x_Rv q) _ rfl rfl (Nat.le_of_ble_eq_true rfl) (t_X5_readTally l H)
theorem lk_685 : Cond.code yX5_readTally cX5_readTally 2 none ∈ x_TB := x_tb (k := 685) (by decide +kernel) rfl
theorem lk_682 : Cond.methodLink RX5 60 yX5_readTally ∈ x_TB := x_tb (k := 682) (by decide +kernel) rfl
theorem lk_12 : Cond.selects RX5 yX5_readTally yX5_readTally ∈ x_TB := x_tb (k := 12) (by decide +kernel) rfl
theorem lk_684 : Cond.instanceMethod yX5_readTally ∈ x_TB := x_tb (k := 684) (by decide +kernel) rfl
theorem lk_160 : Cond.fieldLink RX5 91 RX4 "count" "I" ∈ x_TB := x_tb (k := 160) (by decide +kernel) rfl
theorem lk_694 : Cond.methodLink RX5 94 yX4_isThrough ∈ x_TB := x_tb (k := 694) (by decide +kernel) rfl
theorem lk_698 : Cond.methodLink RX5 97 yX4_pass ∈ x_TB := x_tb (k := 698) (by decide +kernel) rfl
abbrev m_X5_readAsk : XU := (yX5_readAsk, cX5_readAsk, 3, none)
theorem cn_X5_readAsk : m_X5_readAsk.1.cls ≠ "java/lang/invoke/MethodHandle" ∧ m_X5_readAsk.1.cls ≠ "java/lang/invoke/VarHandle" ∧ (parseMethodDescriptor m_X5_readAsk.1.desc).map (fun q => q.parameters.length) = some 0 := by decide +kernel
def f_X5_readAsk (v0 : Nat) (M : XM) : Option XM :=
  if x_tag M v0 = 5 + 10 then (if x_tag M (x_r M v0 1) = 4 + 10 then (x_bd (f_X5_readNumber v0 (0 : Int32) ((x_i M (x_r M v0 1) 1) - (1 : Int32)) M) (fun r4 M3 => if x_tag M3 v0 = 5 + 10 then (if (x_i M3 v0 0) = (-1 : Int32) then (if x_tag M3 (x_r M3 v0 1) = 4 + 10 then (x_bd (f_X4_isThrough (x_r M3 v0 1) r4 M3) (fun r10 M9 => if r10 = 0 then (if x_tag M9 v0 = 5 + 10 then (if x_tag M9 (x_r M9 v0 1) = 4 + 10 then (x_bv (f_X4_pass (x_r M9 v0 1) r4 (1 : Int32) M9) (fun M15 => some M15)) else none) else none) else (if x_tag M9 v0 = 5 + 10 then (x_lt (x_wi M9 v0 0 (x_i M v0 4)) (fun M19 => some M19)) else none))) else none) else (some M3)) else none)) else none) else none
set_option maxRecDepth 20000 in
set_option maxHeartbeats 4000000 in
theorem t_X5_readAsk (l : Launch) {v0 : Nat} {M : XM} {q : XM} (H : f_X5_readAsk v0 M = some q) : AW l m_X5_readAsk 4 0 0 (x_Rv q) 0 0 0 [some (.ref v0), none, none] [] M := by
  unfold f_X5_readAsk at H
  refine x_aload_n 0 0 dX5_readAsk_0 rfl rfl ?_
  obtain ⟨h1, H⟩ := x_ckp H
  refine x_getf 1 39 5 4 (.int (x_i M v0 4)) dX5_readAsk_1 lk_217 (by decide) (by decide) rfl (fun _ => rfl) h1 ?_
  refine x_istore_n 4 1 [some (.ref v0), some (.int (x_i M v0 4)), none] dX5_readAsk_4 rfl rfl (Nat.le_of_ble_eq_true rfl) rfl ?_
  refine x_aload_n 5 0 dX5_readAsk_5 rfl rfl ?_
  refine x_iconst 6 (0 : Int32) dX5_readAsk_6 (by decide) ?_
  refine x_aload_n 7 0 dX5_readAsk_7 rfl rfl ?_
  refine x_getf 8 19 5 1 (.ref (x_r M v0 1)) dX5_readAsk_8 lk_214 (by decide) (by decide) rfl (fun _ => rfl) h1 ?_
  obtain ⟨h2, H⟩ := x_ckp H
  refine x_getf 11 91 4 1 (.int (x_i M (x_r M v0 1) 1)) dX5_readAsk_11 lk_160 (by decide) (by decide) rfl (fun _ => rfl) h2 ?_
  refine x_iconst 14 (1 : Int32) dX5_readAsk_14 (by decide) ?_
  refine x_isub 15 dX5_readAsk_15 ?_
  obtain ⟨r4, M3, e5, H⟩ := x_bd_of H
  refine x_callV 16 82 5 [(.int (0 : Int32)), (.int ((x_i M (x_r M v0 1) 1) - (1 : Int32)))] [] dX5_readAsk_16 (ct_X5_readNumber l e5) lk_677 lk_679 lk_11 (by decide) h1 lk_88 lk_680 ⟨cn_X5_readNumber, (by decide), by decide⟩ rfl (Nat.le_of_ble_eq_true rfl) (Nat.le_of_ble_eq_true rfl) (Nat.le_of_ble_eq_true rfl) (x_ri ?_)
  refine x_istore_n 19 2 [some (.ref v0), some (.int (x_i M v0 4)), some (.int r4)] dX5_readAsk_19 rfl rfl (Nat.le_of_ble_eq_true rfl) rfl ?_
  refine x_aload_n 20 0 dX5_readAsk_20 rfl rfl ?_
  obtain ⟨h6, H⟩ := x_ckp H
  refine x_getf 21 9 5 0 (.int (x_i M3 v0 0)) dX5_readAsk_21 lk_212 (by decide) (by decide) rfl (fun _ => rfl) h6 ?_
  refine x_iconst 24 (-1 : Int32) dX5_readAsk_24 (by decide) ?_
  refine x_icmp_eq 25 29 dX5_readAsk_25 (by decide) (fun c7 => ?_) (fun c7 => ?_)
  · replace H := x_ifp c7 H
    refine x_aload_n 29 0 dX5_readAsk_29 rfl rfl ?_
    refine x_getf 30 19 5 1 (.ref (x_r M3 v0 1)) dX5_readAsk_30 lk_214 (by decide) (by decide) rfl (fun _ => rfl) h6 ?_
    refine x_iload_n 33 2 dX5_readAsk_33 rfl rfl ?_
    obtain ⟨h8, H⟩ := x_ckp H
    obtain ⟨r10, M9, e11, H⟩ := x_bd_of H
    refine x_callV 34 94 4 [(.int r4)] [] dX5_readAsk_34 (ct_X4_isThrough l e11) lk_694 lk_695 lk_696 (by decide) h8 lk_86 lk_697 ⟨cn_X4_isThrough, (by decide), by decide⟩ rfl (Nat.le_of_ble_eq_true rfl) (Nat.le_of_ble_eq_true rfl) (Nat.le_of_ble_eq_true rfl) (x_ri ?_)
    refine x_if_eq 37 48 dX5_readAsk_37 (by decide) (fun c12 => ?_) (fun c12 => ?_)
    · replace H := x_ifp c12 H
      refine x_aload_n 48 0 dX5_readAsk_48 rfl rfl ?_
      obtain ⟨h13, H⟩ := x_ckp H
      refine x_getf 49 19 5 1 (.ref (x_r M9 v0 1)) dX5_readAsk_49 lk_214 (by decide) (by decide) rfl (fun _ => rfl) h13 ?_
      refine x_iload_n 52 2 dX5_readAsk_52 rfl rfl ?_
      refine x_iconst 53 (1 : Int32) dX5_readAsk_53 (by decide) ?_
      obtain ⟨h14, H⟩ := x_ckp H
      obtain ⟨M15, e17, H⟩ := x_bv_of H
      refine x_callV 54 97 4 [(.int r4), (.int (1 : Int32))] [] dX5_readAsk_54 (ct_X4_pass l e17) lk_698 lk_699 lk_700 (by decide) h14 lk_86 lk_701 ⟨cn_X4_pass, (by decide), by decide⟩ rfl (Nat.le_of_ble_eq_true rfl) (Nat.le_of_ble_eq_true rfl) (Nat.le_of_ble_eq_true rfl) (x_rv ?_)
      cases H
      exact x_vret 57 dX5_readAsk_57 rfl (Nat.le_of_ble_eq_true rfl) (Nat.le_of_ble_eq_true rfl) ⟨rfl, rfl⟩
    · replace H := x_ifn c12 H
      refine x_aload_n 40 0 dX5_readAsk_40 rfl rfl ?_
      refine x_iload_n 41 1 dX5_readAsk_41 rfl rfl ?_
      obtain ⟨h18, H⟩ := x_ckp H
      obtain ⟨M19, w20, H⟩ := x_lt_of H
      have h21 : x_tag M19 v0 = 5 + 10 := by rw [w20]; exact h18
      refine x_putI' 42 9 5 0 dX5_readAsk_42 lk_212 (by decide) (by decide) rfl (Or.inl rfl) (Or.inl rfl) h18 w20 ?_
      refine x_goto 45 57 dX5_readAsk_45 (by decide) ?_
      cases H
      exact x_vret 57 dX5_readAsk_57 rfl (Nat.le_of_ble_eq_true rfl) (Nat.le_of_ble_eq_true rfl) ⟨rfl, rfl⟩
  · replace H := x_ifn c7 H
    cases H
    exact x_vret 28 dX5_readAsk_28 rfl (Nat.le_of_ble_eq_true rfl) (Nat.le_of_ble_eq_true rfl) ⟨rfl, rfl⟩

theorem ct_X5_readAsk (l : Launch) {v0 : Nat} {M : XM} {q : XM} (H : f_X5_readAsk v0 M = some q) : Ct l m_X5_readAsk 4 0 0 [(.ref v0)] M (x_Rv q) := x_met l m_X5_readAsk 4 0 0 [(.ref v0)] M (x_Rv q) _ rfl rfl (Nat.le_of_ble_eq_true rfl) (t_X5_readAsk l H)
theorem lk_693 : Cond.code yX5_readAsk cX5_readAsk 3 none ∈ x_TB := x_tb (k := 693) (by decide +kernel) rfl
theorem lk_690 : Cond.methodLink RX5 63 yX5_readAsk ∈ x_TB := x_tb (k := 690) (by decide +kernel) rfl
theorem lk_13 : Cond.selects RX5 yX5_readAsk yX5_readAsk ∈ x_TB := x_tb (k := 13) (by decide +kernel) rfl
theorem lk_692 : Cond.instanceMethod yX5_readAsk ∈ x_TB := x_tb (k := 692) (by decide +kernel) rfl
theorem lk_545 : Cond.fieldLink RX8 189 "WhatDidYouSay" "MOST" "[I" ∈ x_TB := x_tb (k := 545) (by decide +kernel) rfl
abbrev m_X8_isSetting : XU := (yX8_isSetting, cX8_isSetting, 1, (some .boolean))
theorem cn_X8_isSetting : m_X8_isSetting.1.cls ≠ "java/lang/invoke/MethodHandle" ∧ m_X8_isSetting.1.cls ≠ "java/lang/invoke/VarHandle" ∧ (parseMethodDescriptor m_X8_isSetting.1.desc).map (fun q => q.parameters.length) = some 1 := by decide +kernel
def f_X8_isSetting (v0 : Int32) (M : XM) : Option (Int32 × XM) :=
  if v0 < 0 then (some ((0 : Int32), M)) else (if x_tag M 4 = 5 then (if (Int32.ofNat (x_len M 4)) ≤ v0 then (some ((0 : Int32), M)) else (some ((1 : Int32), M))) else none)
set_option maxRecDepth 20000 in
set_option maxHeartbeats 4000000 in
theorem t_X8_isSetting (l : Launch) {v0 : Int32} {M : XM} {q : Int32 × XM} (H : f_X8_isSetting v0 M = some q) : AW l m_X8_isSetting 1 0 0 (x_Ri q) 0 0 0 [some (.int v0)] [] M := by
  unfold f_X8_isSetting at H
  refine x_iload_n 0 0 dX8_isSetting_0 rfl rfl ?_
  refine x_if_lt 1 16 dX8_isSetting_1 (by decide) (fun c1 => ?_) (fun c1 => ?_)
  · replace H := x_ifp c1 H
    refine x_iconst 16 (0 : Int32) dX8_isSetting_16 (by decide) ?_
    cases H
    exact x_iret 17 dX8_isSetting_17 .boolean rfl rfl (Nat.le_of_ble_eq_true rfl) (Nat.le_of_ble_eq_true rfl) ⟨rfl, rfl⟩
  · replace H := x_ifn c1 H
    refine x_iload_n 4 0 dX8_isSetting_4 rfl rfl ?_
    refine x_gets 5 189 4 "MOST" "[I" dX8_isSetting_5 "WhatDidYouSay" x_ZM lk_545 ?_
    obtain ⟨h2, H⟩ := x_ckp H
    refine x_salen 8 dX8_isSetting_8 h2 (by decide) ?_
    refine x_icmp_ge 9 16 dX8_isSetting_9 (by decide) (fun c3 => ?_) (fun c3 => ?_)
    · replace H := x_ifp c3 H
      refine x_iconst 16 (0 : Int32) dX8_isSetting_16 (by decide) ?_
      cases H
      exact x_iret 17 dX8_isSetting_17 .boolean rfl rfl (Nat.le_of_ble_eq_true rfl) (Nat.le_of_ble_eq_true rfl) ⟨rfl, rfl⟩
    · replace H := x_ifn c3 H
      refine x_iconst 12 (1 : Int32) dX8_isSetting_12 (by decide) ?_
      refine x_goto 13 17 dX8_isSetting_13 (by decide) ?_
      cases H
      exact x_iret 17 dX8_isSetting_17 .boolean rfl rfl (Nat.le_of_ble_eq_true rfl) (Nat.le_of_ble_eq_true rfl) ⟨rfl, rfl⟩

theorem ct_X8_isSetting (l : Launch) {v0 : Int32} {M : XM} {q : Int32 × XM} (H : f_X8_isSetting v0 M = some q) : Ct l m_X8_isSetting 1 0 0 [(.int v0)] M (x_Ri q) := x_met l m_X8_isSetting 1 0 0 [(.int v0)] M (x_Ri q) _ rfl rfl (Nat.le_of_ble_eq_true rfl) (t_X8_isSetting l H)
theorem lk_544 : Cond.code yX8_isSetting cX8_isSetting 1 (some .boolean) ∈ x_TB := x_tb (k := 544) (by decide +kernel) rfl
theorem lk_543 : Cond.static yX8_isSetting ∈ x_TB := x_tb (k := 543) (by decide +kernel) rfl
theorem lk_552 : Cond.code yX4_change cX4_change 4 (some .int) ∈ x_TB := x_tb (k := 552) (by decide +kernel) rfl
theorem lk_718 : Cond.methodLink RX5 110 yX4_change ∈ x_TB := x_tb (k := 718) (by decide +kernel) rfl
theorem lk_551 : Cond.selects RX4 yX4_change yX4_change ∈ x_TB := x_tb (k := 551) (by decide +kernel) rfl
theorem lk_550 : Cond.instanceMethod yX4_change ∈ x_TB := x_tb (k := 550) (by decide +kernel) rfl
abbrev m_X5_readSetting : XU := (yX5_readSetting, cX5_readSetting, 3, none)
theorem cn_X5_readSetting : m_X5_readSetting.1.cls ≠ "java/lang/invoke/MethodHandle" ∧ m_X5_readSetting.1.cls ≠ "java/lang/invoke/VarHandle" ∧ (parseMethodDescriptor m_X5_readSetting.1.desc).map (fun q => q.parameters.length) = some 1 := by decide +kernel
def f_X5_readSetting (v0 : Nat) (v1 : Int32) (M : XM) : Option XM :=
  x_bd (f_X8_isSetting v1 M) (fun r2 M1 => if r2 = 0 then (some M1) else (if x_at M1 3 5 v1 = true then (if x_at M1 4 5 v1 = true then (if x_tag M1 v0 = 5 + 10 then (x_bd (f_X5_readNumber v0 (x_i M1 3 v1.toNatClampNeg) (x_i M1 4 v1.toNatClampNeg) M1) (fun r9 M8 => if x_tag M8 v0 = 5 + 10 then (if (x_i M8 v0 0) = (-1 : Int32) then (if x_tag M8 (x_r M8 v0 1) = 4 + 10 then (x_bd (f_X4_change (x_r M8 v0 1) v1 r9 M8) (fun r15 M14 => some M14)) else none) else (some M8)) else none)) else none) else none) else none))
set_option maxRecDepth 20000 in
set_option maxHeartbeats 4000000 in
theorem t_X5_readSetting (l : Launch) {v0 : Nat} {v1 : Int32} {M : XM} {q : XM} (H : f_X5_readSetting v0 v1 M = some q) : AW l m_X5_readSetting 3 0 0 (x_Rv q) 0 0 0 [some (.ref v0), some (.int v1), none] [] M := by
  unfold f_X5_readSetting at H
  refine x_iload_n 0 1 dX5_readSetting_0 rfl rfl ?_
  obtain ⟨r2, M1, e3, H⟩ := x_bd_of H
  refine x_callSN 1 101 [(.int v1)] [] dX5_readSetting_1 (ct_X8_isSetting l e3) (List.mem_of_getElem? (i := 9) rfl) lk_543 lk_85 lk_544 ⟨cn_X8_isSetting, (by decide), by decide⟩ rfl (Nat.le_of_ble_eq_true rfl) (Nat.le_of_ble_eq_true rfl) (Nat.le_of_ble_eq_true rfl) (x_ri ?_)
  refine x_if_ne 4 8 dX5_readSetting_4 (by decide) (fun c4 => ?_) (fun c4 => ?_)
  · replace H := x_ifn c4 H
    refine x_aload_n 8 0 dX5_readSetting_8 rfl rfl ?_
    refine x_getsN 9 104 3 "LEAST" "[I" dX5_readSetting_9 "WhatDidYouSay" "WhatDidYouSay" x_ZL (List.mem_of_getElem? (i := 1) rfl) ?_
    refine x_iload_n 12 1 dX5_readSetting_12 rfl rfl ?_
    obtain ⟨h5, H⟩ := x_ckp H
    refine x_siald 13 dX5_readSetting_13 h5 (by decide) ?_
    refine x_getsN 14 107 4 "MOST" "[I" dX5_readSetting_14 "WhatDidYouSay" "WhatDidYouSay" x_ZM (List.mem_of_getElem? (i := 2) rfl) ?_
    refine x_iload_n 17 1 dX5_readSetting_17 rfl rfl ?_
    obtain ⟨h6, H⟩ := x_ckp H
    refine x_siald 18 dX5_readSetting_18 h6 (by decide) ?_
    obtain ⟨h7, H⟩ := x_ckp H
    obtain ⟨r9, M8, e10, H⟩ := x_bd_of H
    refine x_callV 19 82 5 [(.int (x_i M1 3 v1.toNatClampNeg)), (.int (x_i M1 4 v1.toNatClampNeg))] [] dX5_readSetting_19 (ct_X5_readNumber l e10) lk_677 lk_679 lk_11 (by decide) h7 lk_88 lk_680 ⟨cn_X5_readNumber, (by decide), by decide⟩ rfl (Nat.le_of_ble_eq_true rfl) (Nat.le_of_ble_eq_true rfl) (Nat.le_of_ble_eq_true rfl) (x_ri ?_)
    refine x_istore_n 22 2 [some (.ref v0), some (.int v1), some (.int r9)] dX5_readSetting_22 rfl rfl (Nat.le_of_ble_eq_true rfl) rfl ?_
    refine x_aload_n 23 0 dX5_readSetting_23 rfl rfl ?_
    obtain ⟨h11, H⟩ := x_ckp H
    refine x_getf 24 9 5 0 (.int (x_i M8 v0 0)) dX5_readSetting_24 lk_212 (by decide) (by decide) rfl (fun _ => rfl) h11 ?_
    refine x_iconst 27 (-1 : Int32) dX5_readSetting_27 (by decide) ?_
    refine x_icmp_ne 28 41 dX5_readSetting_28 (by decide) (fun c12 => ?_) (fun c12 => ?_)
    · replace H := x_ifn c12 H
      cases H
      exact x_vret 41 dX5_readSetting_41 rfl (Nat.le_of_ble_eq_true rfl) (Nat.le_of_ble_eq_true rfl) ⟨rfl, rfl⟩
    · replace H := x_ifp c12 H
      refine x_aload_n 31 0 dX5_readSetting_31 rfl rfl ?_
      refine x_getf 32 19 5 1 (.ref (x_r M8 v0 1)) dX5_readSetting_32 lk_214 (by decide) (by decide) rfl (fun _ => rfl) h11 ?_
      refine x_iload_n 35 1 dX5_readSetting_35 rfl rfl ?_
      refine x_iload_n 36 2 dX5_readSetting_36 rfl rfl ?_
      obtain ⟨h13, H⟩ := x_ckp H
      obtain ⟨r15, M14, e16, H⟩ := x_bd_of H
      refine x_callV 37 110 4 [(.int v1), (.int r9)] [] dX5_readSetting_37 (ct_X4_change l e16) lk_718 lk_550 lk_551 (by decide) h13 lk_86 lk_552 ⟨cn_X4_change, (by decide), by decide⟩ rfl (Nat.le_of_ble_eq_true rfl) (Nat.le_of_ble_eq_true rfl) (Nat.le_of_ble_eq_true rfl) (x_ri ?_)
      refine x_pop 40 dX5_readSetting_40 rfl ?_
      cases H
      exact x_vret 41 dX5_readSetting_41 rfl (Nat.le_of_ble_eq_true rfl) (Nat.le_of_ble_eq_true rfl) ⟨rfl, rfl⟩
  · replace H := x_ifp c4 H
    cases H
    exact x_vret 7 dX5_readSetting_7 rfl (Nat.le_of_ble_eq_true rfl) (Nat.le_of_ble_eq_true rfl) ⟨rfl, rfl⟩

theorem ct_X5_readSetting (l : Launch) {v0 : Nat} {v1 : Int32} {M : XM} {q : XM} (H : f_X5_readSetting v0 v1 M = some q) : Ct l m_X5_readSetting 3 0 0 [(.ref v0), (.int v1)] M (x_Rv q) := x_met l m_X5_readSetting 3 0 0 [(.ref v0), (.int v1)] M (x_Rv q) _ rfl rfl (Nat.le_of_ble_eq_true rfl) (t_X5_readSetting l H)
theorem lk_714 : Cond.code yX5_readSetting cX5_readSetting 3 none ∈ x_TB := x_tb (k := 714) (by decide +kernel) rfl
theorem lk_711 : Cond.methodLink RX5 66 yX5_readSetting ∈ x_TB := x_tb (k := 711) (by decide +kernel) rfl
theorem lk_14 : Cond.selects RX5 yX5_readSetting yX5_readSetting ∈ x_TB := x_tb (k := 14) (by decide +kernel) rfl
theorem lk_713 : Cond.instanceMethod yX5_readSetting ∈ x_TB := x_tb (k := 713) (by decide +kernel) rfl
abbrev m_X5_readItem : XU := (yX5_readItem, cX5_readItem, 3, none)
theorem cn_X5_readItem : m_X5_readItem.1.cls ≠ "java/lang/invoke/MethodHandle" ∧ m_X5_readItem.1.cls ≠ "java/lang/invoke/VarHandle" ∧ (parseMethodDescriptor m_X5_readItem.1.desc).map (fun q => q.parameters.length) = some 0 := by decide +kernel
def f_X5_readItem (v0 : Nat) (M : XM) : Option XM :=
  if x_tag M v0 = 5 + 10 then (if (x_i M v0 0) = (-1 : Int32) then (x_bd (f_X5_readWord v0 M) (fun r4 M3 => if x_tag M3 v0 = 5 + 10 then (if (x_i M3 v0 0) = (-1 : Int32) then (x_bd (f_X5_hasRoomFor v0 r4 M3) (fun r9 M8 => if r9 = 0 then (if x_tag M8 v0 = 5 + 10 then (x_lt (x_wi M8 v0 0 (x_i M v0 4)) (fun M13 => some M13)) else none) else (if x_tag M8 v0 = 5 + 10 then (x_bv (f_X5_expect v0 (32 : Int32) M8) (fun M17 => if r4 = (5 : Int32) then (if x_tag M17 v0 = 5 + 10 then (x_bv (f_X5_readCounter v0 M17) (fun M22 => some M22)) else none) else (if r4 = (4 : Int32) then (if x_tag M17 v0 = 5 + 10 then (x_bv (f_X5_readTally v0 M17) (fun M27 => some M27)) else none) else (if r4 = (6 : Int32) then (if x_tag M17 v0 = 5 + 10 then (x_bv (f_X5_readAsk v0 M17) (fun M32 => some M32)) else none) else (if x_tag M17 v0 = 5 + 10 then (x_bv (f_X5_readSetting v0 r4 M17) (fun M36 => some M36)) else none))))) else none))) else (some M3)) else none)) else (some M)) else none
set_option maxRecDepth 20000 in
set_option maxHeartbeats 4000000 in
theorem t_X5_readItem (l : Launch) {v0 : Nat} {M : XM} {q : XM} (H : f_X5_readItem v0 M = some q) : AW l m_X5_readItem 7 0 0 (x_Rv q) 0 0 0 [some (.ref v0), none, none] [] M := by
  unfold f_X5_readItem at H
  refine x_aload_n 0 0 dX5_readItem_0 rfl rfl ?_
  obtain ⟨h1, H⟩ := x_ckp H
  refine x_getf 1 9 5 0 (.int (x_i M v0 0)) dX5_readItem_1 lk_212 (by decide) (by decide) rfl (fun _ => rfl) h1 ?_
  refine x_iconst 4 (-1 : Int32) dX5_readItem_4 (by decide) ?_
  refine x_icmp_eq 5 9 dX5_readItem_5 (by decide) (fun c2 => ?_) (fun c2 => ?_)
  · replace H := x_ifp c2 H
    refine x_aload_n 9 0 dX5_readItem_9 rfl rfl ?_
    refine x_getf 10 39 5 4 (.int (x_i M v0 4)) dX5_readItem_10 lk_217 (by decide) (by decide) rfl (fun _ => rfl) h1 ?_
    refine x_istore_n 13 1 [some (.ref v0), some (.int (x_i M v0 4)), none] dX5_readItem_13 rfl rfl (Nat.le_of_ble_eq_true rfl) rfl ?_
    refine x_aload_n 14 0 dX5_readItem_14 rfl rfl ?_
    obtain ⟨r4, M3, e5, H⟩ := x_bd_of H
    refine x_callV 15 49 5 [] [] dX5_readItem_15 (ct_X5_readWord l e5) lk_590 lk_592 lk_6 (by decide) h1 lk_88 lk_593 ⟨cn_X5_readWord, (by decide), by decide⟩ rfl (Nat.le_of_ble_eq_true rfl) (Nat.le_of_ble_eq_true rfl) (Nat.le_of_ble_eq_true rfl) (x_ri ?_)
    refine x_istore_n 18 2 [some (.ref v0), some (.int (x_i M v0 4)), some (.int r4)] dX5_readItem_18 rfl rfl (Nat.le_of_ble_eq_true rfl) rfl ?_
    refine x_aload_n 19 0 dX5_readItem_19 rfl rfl ?_
    obtain ⟨h6, H⟩ := x_ckp H
    refine x_getf 20 9 5 0 (.int (x_i M3 v0 0)) dX5_readItem_20 lk_212 (by decide) (by decide) rfl (fun _ => rfl) h6 ?_
    refine x_iconst 23 (-1 : Int32) dX5_readItem_23 (by decide) ?_
    refine x_icmp_eq 24 28 dX5_readItem_24 (by decide) (fun c7 => ?_) (fun c7 => ?_)
    · replace H := x_ifp c7 H
      refine x_aload_n 28 0 dX5_readItem_28 rfl rfl ?_
      refine x_iload_n 29 2 dX5_readItem_29 rfl rfl ?_
      obtain ⟨r9, M8, e10, H⟩ := x_bd_of H
      refine x_callV 30 53 5 [(.int r4)] [] dX5_readItem_30 (ct_X5_hasRoomFor l e10) lk_659 lk_661 lk_8 (by decide) h6 lk_88 lk_662 ⟨cn_X5_hasRoomFor, (by decide), by decide⟩ rfl (Nat.le_of_ble_eq_true rfl) (Nat.le_of_ble_eq_true rfl) (Nat.le_of_ble_eq_true rfl) (x_ri ?_)
      refine x_if_ne 33 42 dX5_readItem_33 (by decide) (fun c11 => ?_) (fun c11 => ?_)
      · replace H := x_ifn c11 H
        refine x_aload_n 42 0 dX5_readItem_42 rfl rfl ?_
        refine x_bipush 43 (32 : Int32) dX5_readItem_43 (by decide) ?_
        obtain ⟨h16, H⟩ := x_ckp H
        obtain ⟨M17, e19, H⟩ := x_bv_of H
        refine x_callV 45 45 5 [(.int (32 : Int32))] [] dX5_readItem_45 (ct_X5_expect l e19) lk_668 lk_670 lk_9 (by decide) h16 lk_88 lk_671 ⟨cn_X5_expect, (by decide), by decide⟩ rfl (Nat.le_of_ble_eq_true rfl) (Nat.le_of_ble_eq_true rfl) (Nat.le_of_ble_eq_true rfl) (x_rv ?_)
        refine x_iload_n 48 2 dX5_readItem_48 rfl rfl ?_
        refine x_iconst 49 (5 : Int32) dX5_readItem_49 (by decide) ?_
        refine x_icmp_ne 50 60 dX5_readItem_50 (by decide) (fun c20 => ?_) (fun c20 => ?_)
        · replace H := x_ifn c20 H
          refine x_iload_n 60 2 dX5_readItem_60 rfl rfl ?_
          refine x_iconst 61 (4 : Int32) dX5_readItem_61 (by decide) ?_
          refine x_icmp_ne 62 72 dX5_readItem_62 (by decide) (fun c25 => ?_) (fun c25 => ?_)
          · replace H := x_ifn c25 H
            refine x_iload_n 72 2 dX5_readItem_72 rfl rfl ?_
            refine x_bipush 73 (6 : Int32) dX5_readItem_73 (by decide) ?_
            refine x_icmp_ne 75 85 dX5_readItem_75 (by decide) (fun c30 => ?_) (fun c30 => ?_)
            · replace H := x_ifn c30 H
              refine x_aload_n 85 0 dX5_readItem_85 rfl rfl ?_
              refine x_iload_n 86 2 dX5_readItem_86 rfl rfl ?_
              obtain ⟨h35, H⟩ := x_ckp H
              obtain ⟨M36, e38, H⟩ := x_bv_of H
              refine x_callV 87 66 5 [(.int r4)] [] dX5_readItem_87 (ct_X5_readSetting l e38) lk_711 lk_713 lk_14 (by decide) h35 lk_88 lk_714 ⟨cn_X5_readSetting, (by decide), by decide⟩ rfl (Nat.le_of_ble_eq_true rfl) (Nat.le_of_ble_eq_true rfl) (Nat.le_of_ble_eq_true rfl) (x_rv ?_)
              cases H
              exact x_vret 90 dX5_readItem_90 rfl (Nat.le_of_ble_eq_true rfl) (Nat.le_of_ble_eq_true rfl) ⟨rfl, rfl⟩
            · replace H := x_ifp c30 H
              refine x_aload_n 78 0 dX5_readItem_78 rfl rfl ?_
              obtain ⟨h31, H⟩ := x_ckp H
              obtain ⟨M32, e34, H⟩ := x_bv_of H
              refine x_callV 79 63 5 [] [] dX5_readItem_79 (ct_X5_readAsk l e34) lk_690 lk_692 lk_13 (by decide) h31 lk_88 lk_693 ⟨cn_X5_readAsk, (by decide), by decide⟩ rfl (Nat.le_of_ble_eq_true rfl) (Nat.le_of_ble_eq_true rfl) (Nat.le_of_ble_eq_true rfl) (x_rv ?_)
              refine x_goto 82 90 dX5_readItem_82 (by decide) ?_
              cases H
              exact x_vret 90 dX5_readItem_90 rfl (Nat.le_of_ble_eq_true rfl) (Nat.le_of_ble_eq_true rfl) ⟨rfl, rfl⟩
          · replace H := x_ifp c25 H
            refine x_aload_n 65 0 dX5_readItem_65 rfl rfl ?_
            obtain ⟨h26, H⟩ := x_ckp H
            obtain ⟨M27, e29, H⟩ := x_bv_of H
            refine x_callV 66 60 5 [] [] dX5_readItem_66 (ct_X5_readTally l e29) lk_682 lk_684 lk_12 (by decide) h26 lk_88 lk_685 ⟨cn_X5_readTally, (by decide), by decide⟩ rfl (Nat.le_of_ble_eq_true rfl) (Nat.le_of_ble_eq_true rfl) (Nat.le_of_ble_eq_true rfl) (x_rv ?_)
            refine x_goto 69 90 dX5_readItem_69 (by decide) ?_
            cases H
            exact x_vret 90 dX5_readItem_90 rfl (Nat.le_of_ble_eq_true rfl) (Nat.le_of_ble_eq_true rfl) ⟨rfl, rfl⟩
        · replace H := x_ifp c20 H
          refine x_aload_n 53 0 dX5_readItem_53 rfl rfl ?_
          obtain ⟨h21, H⟩ := x_ckp H
          obtain ⟨M22, e24, H⟩ := x_bv_of H
          refine x_callV 54 57 5 [] [] dX5_readItem_54 (ct_X5_readCounter l e24) lk_672 lk_674 lk_10 (by decide) h21 lk_88 lk_675 ⟨cn_X5_readCounter, (by decide), by decide⟩ rfl (Nat.le_of_ble_eq_true rfl) (Nat.le_of_ble_eq_true rfl) (Nat.le_of_ble_eq_true rfl) (x_rv ?_)
          refine x_goto 57 90 dX5_readItem_57 (by decide) ?_
          cases H
          exact x_vret 90 dX5_readItem_90 rfl (Nat.le_of_ble_eq_true rfl) (Nat.le_of_ble_eq_true rfl) ⟨rfl, rfl⟩
      · replace H := x_ifp c11 H
        refine x_aload_n 36 0 dX5_readItem_36 rfl rfl ?_
        refine x_iload_n 37 1 dX5_readItem_37 rfl rfl ?_
        obtain ⟨h12, H⟩ := x_ckp H
        obtain ⟨M13, w14, H⟩ := x_lt_of H
        have h15 : x_tag M13 v0 = 5 + 10 := by rw [w14]; exact h12
        refine x_putI' 38 9 5 0 dX5_readItem_38 lk_212 (by decide) (by decide) rfl (Or.inl rfl) (Or.inl rfl) h12 w14 ?_
        cases H
        exact x_vret 41 dX5_readItem_41 rfl (Nat.le_of_ble_eq_true rfl) (Nat.le_of_ble_eq_true rfl) ⟨rfl, rfl⟩
    · replace H := x_ifn c7 H
      cases H
      exact x_vret 27 dX5_readItem_27 rfl (Nat.le_of_ble_eq_true rfl) (Nat.le_of_ble_eq_true rfl) ⟨rfl, rfl⟩
  · replace H := x_ifn c2 H
    cases H
    exact x_vret 8 dX5_readItem_8 rfl (Nat.le_of_ble_eq_true rfl) (Nat.le_of_ble_eq_true rfl) ⟨rfl, rfl⟩

theorem ct_X5_readItem (l : Launch) {v0 : Nat} {M : XM} {q : XM} (H : f_X5_readItem v0 M = some q) : Ct l m_X5_readItem 7 0 0 [(.ref v0)] M (x_Rv q) := x_met l m_X5_readItem 7 0 0 [(.ref v0)] M (x_Rv q) _ rfl rfl (Nat.le_of_ble_eq_true rfl) (t_X5_readItem l H)
theorem lk_589 : Cond.code yX5_readItem cX5_readItem 3 none ∈ x_TB := x_tb (k := 589) (by decide +kernel) rfl
theorem lk_586 : Cond.methodLink RX5 42 yX5_readItem ∈ x_TB := x_tb (k := 586) (by decide +kernel) rfl
theorem lk_5 : Cond.selects RX5 yX5_readItem yX5_readItem ∈ x_TB := x_tb (k := 5) (by decide +kernel) rfl
theorem lk_588 : Cond.instanceMethod yX5_readItem ∈ x_TB := x_tb (k := 588) (by decide +kernel) rfl
theorem lk_344 : Cond.fieldLink RX6 26 RX6 "length" "I" ∈ x_TB := x_tb (k := 344) (by decide +kernel) rfl
abbrev m_X6_hasElement : XU := (yX6_hasElement, cX6_hasElement, 2, (some .boolean))
theorem cn_X6_hasElement : m_X6_hasElement.1.cls ≠ "java/lang/invoke/MethodHandle" ∧ m_X6_hasElement.1.cls ≠ "java/lang/invoke/VarHandle" ∧ (parseMethodDescriptor m_X6_hasElement.1.desc).map (fun q => q.parameters.length) = some 1 := by decide +kernel
def f_X6_hasElement (v0 : Nat) (v1 : Int32) (M : XM) : Option (Int32 × XM) :=
  if v1 < 0 then (some ((0 : Int32), M)) else (if x_tag M v0 = 6 + 10 then (if (x_i M v0 2) ≤ v1 then (some ((0 : Int32), M)) else (some ((1 : Int32), M))) else none)
set_option maxRecDepth 20000 in
set_option maxHeartbeats 4000000 in
theorem t_X6_hasElement (l : Launch) {v0 : Nat} {v1 : Int32} {M : XM} {q : Int32 × XM} (H : f_X6_hasElement v0 v1 M = some q) : AW l m_X6_hasElement 1 0 0 (x_Ri q) 0 0 0 [some (.ref v0), some (.int v1)] [] M := by
  unfold f_X6_hasElement at H
  refine x_iload_n 0 1 dX6_hasElement_0 rfl rfl ?_
  refine x_if_lt 1 16 dX6_hasElement_1 (by decide) (fun c1 => ?_) (fun c1 => ?_)
  · replace H := x_ifp c1 H
    refine x_iconst 16 (0 : Int32) dX6_hasElement_16 (by decide) ?_
    cases H
    exact x_iret 17 dX6_hasElement_17 .boolean rfl rfl (Nat.le_of_ble_eq_true rfl) (Nat.le_of_ble_eq_true rfl) ⟨rfl, rfl⟩
  · replace H := x_ifn c1 H
    refine x_iload_n 4 1 dX6_hasElement_4 rfl rfl ?_
    refine x_aload_n 5 0 dX6_hasElement_5 rfl rfl ?_
    obtain ⟨h2, H⟩ := x_ckp H
    refine x_getf 6 26 6 2 (.int (x_i M v0 2)) dX6_hasElement_6 lk_344 (by decide) (by decide) rfl (fun _ => rfl) h2 ?_
    refine x_icmp_ge 9 16 dX6_hasElement_9 (by decide) (fun c3 => ?_) (fun c3 => ?_)
    · replace H := x_ifp c3 H
      refine x_iconst 16 (0 : Int32) dX6_hasElement_16 (by decide) ?_
      cases H
      exact x_iret 17 dX6_hasElement_17 .boolean rfl rfl (Nat.le_of_ble_eq_true rfl) (Nat.le_of_ble_eq_true rfl) ⟨rfl, rfl⟩
    · replace H := x_ifn c3 H
      refine x_iconst 12 (1 : Int32) dX6_hasElement_12 (by decide) ?_
      refine x_goto 13 17 dX6_hasElement_13 (by decide) ?_
      cases H
      exact x_iret 17 dX6_hasElement_17 .boolean rfl rfl (Nat.le_of_ble_eq_true rfl) (Nat.le_of_ble_eq_true rfl) ⟨rfl, rfl⟩

theorem ct_X6_hasElement (l : Launch) {v0 : Nat} {v1 : Int32} {M : XM} {q : Int32 × XM} (H : f_X6_hasElement v0 v1 M = some q) : Ct l m_X6_hasElement 1 0 0 [(.ref v0), (.int v1)] M (x_Ri q) := x_met l m_X6_hasElement 1 0 0 [(.ref v0), (.int v1)] M (x_Ri q) _ rfl rfl (Nat.le_of_ble_eq_true rfl) (t_X6_hasElement l H)
theorem lk_93 : Cond.initialized RX6 ∈ x_TB := x_tb (k := 93) (by decide +kernel) rfl
theorem lk_444 : Cond.code yX6_hasElement cX6_hasElement 2 (some .boolean) ∈ x_TB := x_tb (k := 444) (by decide +kernel) rfl
theorem lk_449 : Cond.methodLink RX6 35 yX6_hasElement ∈ x_TB := x_tb (k := 449) (by decide +kernel) rfl
theorem lk_443 : Cond.selects RX6 yX6_hasElement yX6_hasElement ∈ x_TB := x_tb (k := 443) (by decide +kernel) rfl
theorem lk_442 : Cond.instanceMethod yX6_hasElement ∈ x_TB := x_tb (k := 442) (by decide +kernel) rfl
theorem lk_346 : Cond.fieldLink RX6 18 RX6 "elements" "[J" ∈ x_TB := x_tb (k := 346) (by decide +kernel) rfl
abbrev m_X6_elementAt : XU := (yX6_elementAt, cX6_elementAt, 2, (some .long))
theorem cn_X6_elementAt : m_X6_elementAt.1.cls ≠ "java/lang/invoke/MethodHandle" ∧ m_X6_elementAt.1.cls ≠ "java/lang/invoke/VarHandle" ∧ (parseMethodDescriptor m_X6_elementAt.1.desc).map (fun q => q.parameters.length) = some 1 := by decide +kernel
def f_X6_elementAt (v0 : Nat) (v1 : Int32) (M : XM) : Option (Int64 × XM) :=
  if x_tag M v0 = 6 + 10 then (x_bd (f_X6_hasElement v0 v1 M) (fun r3 M2 => if r3 = 0 then (some ((0 : Int64), M2)) else (if x_tag M2 v0 = 6 + 10 then (if x_at M2 (x_r M2 v0 3) 2 v1 = true then (some ((x_j M2 (x_r M2 v0 3) v1.toNatClampNeg), M2)) else none) else none))) else none
set_option maxRecDepth 20000 in
set_option maxHeartbeats 4000000 in
theorem t_X6_elementAt (l : Launch) {v0 : Nat} {v1 : Int32} {M : XM} {q : Int64 × XM} (H : f_X6_elementAt v0 v1 M = some q) : AW l m_X6_elementAt 2 0 0 (x_Rl q) 0 0 0 [some (.ref v0), some (.int v1)] [] M := by
  unfold f_X6_elementAt at H
  refine x_aload_n 0 0 dX6_elementAt_0 rfl rfl ?_
  refine x_iload_n 1 1 dX6_elementAt_1 rfl rfl ?_
  obtain ⟨h1, H⟩ := x_ckp H
  obtain ⟨r3, M2, e4, H⟩ := x_bd_of H
  refine x_callV 2 35 6 [(.int v1)] [] dX6_elementAt_2 (ct_X6_hasElement l e4) lk_449 lk_442 lk_443 (by decide) h1 lk_93 lk_444 ⟨cn_X6_hasElement, (by decide), by decide⟩ rfl (Nat.le_of_ble_eq_true rfl) (Nat.le_of_ble_eq_true rfl) (Nat.le_of_ble_eq_true rfl) (x_ri ?_)
  refine x_if_eq 5 17 dX6_elementAt_5 (by decide) (fun c5 => ?_) (fun c5 => ?_)
  · replace H := x_ifp c5 H
    refine x_lconst 17 (0 : Int64) dX6_elementAt_17 (by decide) ?_
    cases H
    exact x_lret 18 dX6_elementAt_18 rfl (Nat.le_of_ble_eq_true rfl) (Nat.le_of_ble_eq_true rfl) ⟨rfl, rfl⟩
  · replace H := x_ifn c5 H
    refine x_aload_n 8 0 dX6_elementAt_8 rfl rfl ?_
    obtain ⟨h6, H⟩ := x_ckp H
    refine x_getf 9 18 6 3 (.ref (x_r M2 v0 3)) dX6_elementAt_9 lk_346 (by decide) (by decide) rfl (fun _ => rfl) h6 ?_
    refine x_iload_n 12 1 dX6_elementAt_12 rfl rfl ?_
    obtain ⟨h7, H⟩ := x_ckp H
    refine x_lald 13 dX6_elementAt_13 h7 ?_
    refine x_goto 14 18 dX6_elementAt_14 (by decide) ?_
    cases H
    exact x_lret 18 dX6_elementAt_18 rfl (Nat.le_of_ble_eq_true rfl) (Nat.le_of_ble_eq_true rfl) ⟨rfl, rfl⟩

theorem ct_X6_elementAt (l : Launch) {v0 : Nat} {v1 : Int32} {M : XM} {q : Int64 × XM} (H : f_X6_elementAt v0 v1 M = some q) : Ct l m_X6_elementAt 2 0 0 [(.ref v0), (.int v1)] M (x_Rl q) := x_met l m_X6_elementAt 2 0 0 [(.ref v0), (.int v1)] M (x_Rl q) _ rfl rfl (Nat.le_of_ble_eq_true rfl) (t_X6_elementAt l H)
theorem lk_473 : Cond.code yX6_elementAt cX6_elementAt 2 (some .long) ∈ x_TB := x_tb (k := 473) (by decide +kernel) rfl
theorem lk_585 : Cond.methodLink RX6 39 yX6_elementAt ∈ x_TB := x_tb (k := 585) (by decide +kernel) rfl
theorem lk_472 : Cond.selects RX6 yX6_elementAt yX6_elementAt ∈ x_TB := x_tb (k := 472) (by decide +kernel) rfl
theorem lk_471 : Cond.instanceMethod yX6_elementAt ∈ x_TB := x_tb (k := 471) (by decide +kernel) rfl
abbrev m_X6_intAt : XU := (yX6_intAt, cX6_intAt, 2, (some .int))
theorem cn_X6_intAt : m_X6_intAt.1.cls ≠ "java/lang/invoke/MethodHandle" ∧ m_X6_intAt.1.cls ≠ "java/lang/invoke/VarHandle" ∧ (parseMethodDescriptor m_X6_intAt.1.desc).map (fun q => q.parameters.length) = some 1 := by decide +kernel
def f_X6_intAt (v0 : Nat) (v1 : Int32) (M : XM) : Option (Int32 × XM) :=
  if x_tag M v0 = 6 + 10 then (x_bd (f_X6_elementAt v0 v1 M) (fun r3 M2 => some ((r3.toInt32), M2))) else none
set_option maxRecDepth 20000 in
set_option maxHeartbeats 4000000 in
theorem t_X6_intAt (l : Launch) {v0 : Nat} {v1 : Int32} {M : XM} {q : Int32 × XM} (H : f_X6_intAt v0 v1 M = some q) : AW l m_X6_intAt 3 0 0 (x_Ri q) 0 0 0 [some (.ref v0), some (.int v1)] [] M := by
  unfold f_X6_intAt at H
  refine x_aload_n 0 0 dX6_intAt_0 rfl rfl ?_
  refine x_iload_n 1 1 dX6_intAt_1 rfl rfl ?_
  obtain ⟨h1, H⟩ := x_ckp H
  obtain ⟨r3, M2, e4, H⟩ := x_bd_of H
  refine x_callV 2 39 6 [(.int v1)] [] dX6_intAt_2 (ct_X6_elementAt l e4) lk_585 lk_471 lk_472 (by decide) h1 lk_93 lk_473 ⟨cn_X6_elementAt, (by decide), by decide⟩ rfl (Nat.le_of_ble_eq_true rfl) (Nat.le_of_ble_eq_true rfl) (Nat.le_of_ble_eq_true rfl) (x_rl ?_)
  refine x_l2i 5 dX6_intAt_5 ?_
  cases H
  exact x_iret 6 dX6_intAt_6 .int rfl rfl (Nat.le_of_ble_eq_true rfl) (Nat.le_of_ble_eq_true rfl) ⟨rfl, rfl⟩

theorem ct_X6_intAt (l : Launch) {v0 : Nat} {v1 : Int32} {M : XM} {q : Int32 × XM} (H : f_X6_intAt v0 v1 M = some q) : Ct l m_X6_intAt 3 0 0 [(.ref v0), (.int v1)] M (x_Ri q) := x_met l m_X6_intAt 3 0 0 [(.ref v0), (.int v1)] M (x_Ri q) _ rfl rfl (Nat.le_of_ble_eq_true rfl) (t_X6_intAt l H)
theorem lk_584 : Cond.code yX6_intAt cX6_intAt 2 (some .int) ∈ x_TB := x_tb (k := 584) (by decide +kernel) rfl
theorem lk_581 : Cond.methodLink RX5 35 yX6_intAt ∈ x_TB := x_tb (k := 581) (by decide +kernel) rfl
theorem lk_583 : Cond.selects RX6 yX6_intAt yX6_intAt ∈ x_TB := x_tb (k := 583) (by decide +kernel) rfl
theorem lk_582 : Cond.instanceMethod yX6_intAt ∈ x_TB := x_tb (k := 582) (by decide +kernel) rfl
abbrev m_X5_read : XU := (yX5_read, cX5_read, 3, (some .int))
theorem cn_X5_read : m_X5_read.1.cls ≠ "java/lang/invoke/MethodHandle" ∧ m_X5_read.1.cls ≠ "java/lang/invoke/VarHandle" ∧ (parseMethodDescriptor m_X5_read.1.desc).map (fun q => q.parameters.length) = some 1 := by decide +kernel
def bd_X5_read_59 (κ59 : Nat → Int32 → XM → Option (Int32 × XM)) (v0 : Nat) (v2 : Int32) (M : XM) : Option (Int32 × XM) :=
  if x_tag M v0 = 5 + 10 then (if (x_i M v0 3) < v2 then (some (v2, M)) else (if (x_i M v0 0) = (-1 : Int32) then (if (x_i M v0 3) ≤ (x_i M v0 4) then (some (v2, M)) else (x_bv (f_X5_expect v0 (59 : Int32) M) (fun M24 => if x_tag M24 v0 = 5 + 10 then (x_bv (f_X5_readItem v0 M24) (fun M28 => κ59 v0 (v2 + (1 : Int32)) M28)) else none))) else (some (v2, M)))) else none
set_option maxRecDepth 20000 in
set_option maxHeartbeats 4000000 in
theorem tb_X5_read_59 (l : Launch) {κ59 : Nat → Int32 → XM → Option (Int32 × XM)} {v0 : Nat} {v2 : Int32} {M : XM} {q : Int32 × XM} (hκ59 : ∀ (v0 : Nat) (v2 : Int32) (M : XM), κ59 v0 v2 M = some q → AW l m_X5_read 8 0 0 (x_Ri q) 0 0 59 [some (.ref v0), none, some (.int v2)] [] M) (H : bd_X5_read_59 κ59 v0 v2 M = some q) : AW l m_X5_read 8 0 0 (x_Ri q) 0 0 59 [some (.ref v0), none, some (.int v2)] [] M := by
  unfold bd_X5_read_59 at H
  refine x_iload_n 59 2 dX5_read_59 rfl rfl ?_
  refine x_aload_n 60 0 dX5_read_60 rfl rfl ?_
  obtain ⟨h20, H⟩ := x_ckp H
  refine x_getf 61 34 5 3 (.int (x_i M v0 3)) dX5_read_61 lk_216 (by decide) (by decide) rfl (fun _ => rfl) h20 ?_
  refine x_icmp_gt 64 102 dX5_read_64 (by decide) (fun c21 => ?_) (fun c21 => ?_)
  · replace H := x_ifp c21 H
    refine x_iload_n 102 2 dX5_read_102 rfl rfl ?_
    cases H
    exact x_iret 103 dX5_read_103 .int rfl rfl (Nat.le_of_ble_eq_true rfl) (Nat.le_of_ble_eq_true rfl) ⟨rfl, rfl⟩
  · replace H := x_ifn c21 H
    refine x_aload_n 67 0 dX5_read_67 rfl rfl ?_
    refine x_getf 68 9 5 0 (.int (x_i M v0 0)) dX5_read_68 lk_212 (by decide) (by decide) rfl (fun _ => rfl) h20 ?_
    refine x_iconst 71 (-1 : Int32) dX5_read_71 (by decide) ?_
    refine x_icmp_ne 72 102 dX5_read_72 (by decide) (fun c22 => ?_) (fun c22 => ?_)
    · replace H := x_ifn c22 H
      refine x_iload_n 102 2 dX5_read_102 rfl rfl ?_
      cases H
      exact x_iret 103 dX5_read_103 .int rfl rfl (Nat.le_of_ble_eq_true rfl) (Nat.le_of_ble_eq_true rfl) ⟨rfl, rfl⟩
    · replace H := x_ifp c22 H
      refine x_aload_n 75 0 dX5_read_75 rfl rfl ?_
      refine x_getf 76 39 5 4 (.int (x_i M v0 4)) dX5_read_76 lk_217 (by decide) (by decide) rfl (fun _ => rfl) h20 ?_
      refine x_aload_n 79 0 dX5_read_79 rfl rfl ?_
      refine x_getf 80 34 5 3 (.int (x_i M v0 3)) dX5_read_80 lk_216 (by decide) (by decide) rfl (fun _ => rfl) h20 ?_
      refine x_icmp_ge 83 102 dX5_read_83 (by decide) (fun c23 => ?_) (fun c23 => ?_)
      · replace H := x_ifp c23 H
        refine x_iload_n 102 2 dX5_read_102 rfl rfl ?_
        cases H
        exact x_iret 103 dX5_read_103 .int rfl rfl (Nat.le_of_ble_eq_true rfl) (Nat.le_of_ble_eq_true rfl) ⟨rfl, rfl⟩
      · replace H := x_ifn c23 H
        refine x_aload_n 86 0 dX5_read_86 rfl rfl ?_
        refine x_bipush 87 (59 : Int32) dX5_read_87 (by decide) ?_
        obtain ⟨M24, e26, H⟩ := x_bv_of H
        refine x_callV 89 45 5 [(.int (59 : Int32))] [] dX5_read_89 (ct_X5_expect l e26) lk_668 lk_670 lk_9 (by decide) h20 lk_88 lk_671 ⟨cn_X5_expect, (by decide), by decide⟩ rfl (Nat.le_of_ble_eq_true rfl) (Nat.le_of_ble_eq_true rfl) (Nat.le_of_ble_eq_true rfl) (x_rv ?_)
        refine x_aload_n 92 0 dX5_read_92 rfl rfl ?_
        obtain ⟨h27, H⟩ := x_ckp H
        obtain ⟨M28, e30, H⟩ := x_bv_of H
        refine x_callV 93 42 5 [] [] dX5_read_93 (ct_X5_readItem l e30) lk_586 lk_588 lk_5 (by decide) h27 lk_88 lk_589 ⟨cn_X5_readItem, (by decide), by decide⟩ rfl (Nat.le_of_ble_eq_true rfl) (Nat.le_of_ble_eq_true rfl) (Nat.le_of_ble_eq_true rfl) (x_rv ?_)
        refine x_iinc 96 2 (v2 + (1 : Int32)) [some (.ref v0), none, some (.int (v2 + (1 : Int32)))] dX5_read_96 rfl (congrArg (fun z : Int32 => v2 + z) (show Int32.ofInt (1) = (1 : Int32) by decide)) rfl (Nat.le_of_ble_eq_true rfl) rfl ?_
        refine x_goto 99 59 dX5_read_99 (by decide) ?_
        exact hκ59 _ _ _ H

def lp_X5_read_59 (n : Nat) : Nat → Int32 → XM → Option (Int32 × XM) := x_rec (fun _ _ _ => none) (bd_X5_read_59) n
theorem t_X5_read_59 (l : Launch) {q : Int32 × XM} : ∀ (n : Nat) (v0 : Nat) (v2 : Int32) (M : XM), lp_X5_read_59 n v0 v2 M = some q → AW l m_X5_read 8 0 0 (x_Ri q) 0 0 59 [some (.ref v0), none, some (.int v2)] [] M := by
  intro n
  induction n with
  | zero => intro v0 v2 M H; cases H
  | succ n ih => intro v0 v2 M H; exact tb_X5_read_59 l ih H
def bd_X5_read_18 (κ18 : Nat → Nat → Int32 → XM → Option (Int32 × XM)) (v0 : Nat) (v1 : Nat) (v2 : Int32) (M : XM) : Option (Int32 × XM) :=
  if x_tag M v0 = 5 + 10 then (if (x_i M v0 3) ≤ v2 then (x_lt (x_wi M v0 4 (0 : Int32)) (fun M11 => x_lt (x_wi M11 v0 0 (-1 : Int32)) (fun M14 => x_bv (f_X5_readItem v0 M14) (fun M17 => lp_X5_read_59 x_fuel v0 (1 : Int32) M17)))) else (if x_tag M v1 = 6 + 10 then (x_bd (f_X6_intAt v1 v2 M) (fun r33 M32 => if x_at M32 (x_r M v0 2) 1 v2 = true then (x_lt (x_wi M32 (x_r M v0 2) v2.toNatClampNeg r33) (fun M36 => κ18 v0 v1 (v2 + (1 : Int32)) M36)) else none)) else none)) else none
set_option maxRecDepth 20000 in
set_option maxHeartbeats 4000000 in
theorem tb_X5_read_18 (l : Launch) {κ18 : Nat → Nat → Int32 → XM → Option (Int32 × XM)} {v0 : Nat} {v1 : Nat} {v2 : Int32} {M : XM} {q : Int32 × XM} (hκ18 : ∀ (v0 : Nat) (v1 : Nat) (v2 : Int32) (M : XM), κ18 v0 v1 v2 M = some q → AW l m_X5_read 8 0 0 (x_Ri q) 0 0 18 [some (.ref v0), some (.ref v1), some (.int v2)] [] M) (H : bd_X5_read_18 κ18 v0 v1 v2 M = some q) : AW l m_X5_read 8 0 0 (x_Ri q) 0 0 18 [some (.ref v0), some (.ref v1), some (.int v2)] [] M := by
  unfold bd_X5_read_18 at H
  refine x_iload_n 18 2 dX5_read_18 rfl rfl ?_
  refine x_aload_n 19 0 dX5_read_19 rfl rfl ?_
  obtain ⟨h9, H⟩ := x_ckp H
  refine x_getf 20 34 5 3 (.int (x_i M v0 3)) dX5_read_20 lk_216 (by decide) (by decide) rfl (fun _ => rfl) h9 ?_
  refine x_icmp_ge 23 43 dX5_read_23 (by decide) (fun c10 => ?_) (fun c10 => ?_)
  · replace H := x_ifp c10 H
    refine x_aload_n 43 0 dX5_read_43 rfl rfl ?_
    refine x_iconst 44 (0 : Int32) dX5_read_44 (by decide) ?_
    obtain ⟨M11, w12, H⟩ := x_lt_of H
    have h13 : x_tag M11 v0 = 5 + 10 := by rw [w12]; exact h9
    refine x_putI' 45 39 5 4 dX5_read_45 lk_217 (by decide) (by decide) rfl (Or.inl rfl) (Or.inl rfl) h9 w12 ?_
    refine x_aload_n 48 0 dX5_read_48 rfl rfl ?_
    refine x_iconst 49 (-1 : Int32) dX5_read_49 (by decide) ?_
    obtain ⟨M14, w15, H⟩ := x_lt_of H
    have h16 : x_tag M14 v0 = 5 + 10 := by rw [w15]; exact h13
    refine x_putI' 50 9 5 0 dX5_read_50 lk_212 (by decide) (by decide) rfl (Or.inl rfl) (Or.inl rfl) h13 w15 ?_
    refine x_aload_n 53 0 dX5_read_53 rfl rfl ?_
    obtain ⟨M17, e19, H⟩ := x_bv_of H
    refine x_callV 54 42 5 [] [] dX5_read_54 (ct_X5_readItem l e19) lk_586 lk_588 lk_5 (by decide) h16 lk_88 lk_589 ⟨cn_X5_readItem, (by decide), by decide⟩ rfl (Nat.le_of_ble_eq_true rfl) (Nat.le_of_ble_eq_true rfl) (Nat.le_of_ble_eq_true rfl) (x_rv ?_)
    refine x_iconst 57 (1 : Int32) dX5_read_57 (by decide) ?_
    refine x_istore_n 58 2 [some (.ref v0), some (.ref v1), some (.int (1 : Int32))] dX5_read_58 rfl rfl (Nat.le_of_ble_eq_true rfl) rfl ?_
    exact x_wk (le_s (le_n (le_s le_0))) (t_X5_read_59 l _ _ _ _ H)
  · replace H := x_ifn c10 H
    refine x_aload_n 26 0 dX5_read_26 rfl rfl ?_
    refine x_getf 27 15 5 2 (.ref (x_r M v0 2)) dX5_read_27 lk_215 (by decide) (by decide) rfl (fun _ => rfl) h9 ?_
    refine x_iload_n 30 2 dX5_read_30 rfl rfl ?_
    refine x_aload_n 31 1 dX5_read_31 rfl rfl ?_
    refine x_iload_n 32 2 dX5_read_32 rfl rfl ?_
    obtain ⟨h31, H⟩ := x_ckp H
    obtain ⟨r33, M32, e34, H⟩ := x_bd_of H
    refine x_callV 33 35 6 [(.int v2)] [(.int v2), (.ref (x_r M v0 2))] dX5_read_33 (ct_X6_intAt l e34) lk_581 lk_582 lk_583 (by decide) h31 lk_93 lk_584 ⟨cn_X6_intAt, (by decide), by decide⟩ rfl (Nat.le_of_ble_eq_true rfl) (Nat.le_of_ble_eq_true rfl) (Nat.le_of_ble_eq_true rfl) (x_ri ?_)
    obtain ⟨h35, H⟩ := x_ckp H
    obtain ⟨M36, w37, H⟩ := x_lt_of H
    have h38 : x_at M36 (x_r M v0 2) 1 v2 = true := by rw [w37]; exact h35
    have h39 : x_tag M36 (x_r M v0 2) = 1 := by rw [w37]; exact (x_at_1 h35)
    refine x_iast' 36 dX5_read_36 h35 w37 ?_
    refine x_iinc 37 2 (v2 + (1 : Int32)) [some (.ref v0), some (.ref v1), some (.int (v2 + (1 : Int32)))] dX5_read_37 rfl (congrArg (fun z : Int32 => v2 + z) (show Int32.ofInt (1) = (1 : Int32) by decide)) rfl (Nat.le_of_ble_eq_true rfl) rfl ?_
    refine x_goto 40 18 dX5_read_40 (by decide) ?_
    exact hκ18 _ _ _ _ H

def lp_X5_read_18 (n : Nat) : Nat → Nat → Int32 → XM → Option (Int32 × XM) := x_rec (fun _ _ _ _ => none) (bd_X5_read_18) n
theorem t_X5_read_18 (l : Launch) {q : Int32 × XM} : ∀ (n : Nat) (v0 : Nat) (v1 : Nat) (v2 : Int32) (M : XM), lp_X5_read_18 n v0 v1 v2 M = some q → AW l m_X5_read 8 0 0 (x_Ri q) 0 0 18 [some (.ref v0), some (.ref v1), some (.int v2)] [] M := by
  intro n
  induction n with
  | zero => intro v0 v1 v2 M H; cases H
  | succ n ih => intro v0 v1 v2 M H; exact tb_X5_read_18 l ih H
def f_X5_read (v0 : Nat) (v1 : Nat) (M : XM) : Option (Int32 × XM) :=
  if x_tag M v1 = 6 + 10 then (if x_tag M v0 = 5 + 10 then (if x_tag M (x_r M v0 2) = 1 then (x_lt (x_wi M v0 3 (if (Int32.ofNat (x_len M (x_r M v0 2))) < (x_i M v1 2) then (Int32.ofNat (x_len M (x_r M v0 2))) else (x_i M v1 2))) (fun M4 => lp_X5_read_18 x_fuel v0 v1 (0 : Int32) M4)) else none) else none) else none
set_option maxRecDepth 20000 in
set_option maxHeartbeats 4000000 in
theorem t_X5_read (l : Launch) {v0 : Nat} {v1 : Nat} {M : XM} {q : Int32 × XM} (H : f_X5_read v0 v1 M = some q) : AW l m_X5_read 8 0 0 (x_Ri q) 0 0 0 [some (.ref v0), some (.ref v1), none] [] M := by
  unfold f_X5_read at H
  refine x_aload_n 0 0 dX5_read_0 rfl rfl ?_
  refine x_aload_n 1 1 dX5_read_1 rfl rfl ?_
  obtain ⟨h1, H⟩ := x_ckp H
  refine x_getf 2 23 6 2 (.int (x_i M v1 2)) dX5_read_2 lk_343 (by decide) (by decide) rfl (fun _ => rfl) h1 ?_
  refine x_aload_n 5 0 dX5_read_5 rfl rfl ?_
  obtain ⟨h2, H⟩ := x_ckp H
  refine x_getf 6 15 5 2 (.ref (x_r M v0 2)) dX5_read_6 lk_215 (by decide) (by decide) rfl (fun _ => rfl) h2 ?_
  obtain ⟨h3, H⟩ := x_ckp H
  refine x_alen 9 1 dX5_read_9 h3 (by decide) ?_
  refine x_min 10 28 dX5_read_10 lk_580 lk_558 lk_97 lk_559 rfl (Nat.le_of_ble_eq_true rfl) (by decide) (Nat.le_of_ble_eq_true rfl) (Nat.le_of_ble_eq_true rfl) ?_
  obtain ⟨M4, w5, H⟩ := x_lt_of H
  have h6 : x_tag M4 v1 = 6 + 10 := by rw [w5]; exact h1
  have h7 : x_tag M4 v0 = 5 + 10 := by rw [w5]; exact h2
  have h8 : x_tag M4 (x_r M v0 2) = 1 := by rw [w5]; exact h3
  refine x_putI' 13 34 5 3 dX5_read_13 lk_216 (by decide) (by decide) rfl (Or.inl rfl) (Or.inl rfl) h2 w5 ?_
  refine x_iconst 16 (0 : Int32) dX5_read_16 (by decide) ?_
  refine x_istore_n 17 2 [some (.ref v0), some (.ref v1), some (.int (0 : Int32))] dX5_read_17 rfl rfl (Nat.le_of_ble_eq_true rfl) rfl ?_
  exact t_X5_read_18 l _ _ _ _ _ H

theorem ct_X5_read (l : Launch) {v0 : Nat} {v1 : Nat} {M : XM} {q : Int32 × XM} (H : f_X5_read v0 v1 M = some q) : Ct l m_X5_read 8 0 0 [(.ref v0), (.ref v1)] M (x_Ri q) := x_met l m_X5_read 8 0 0 [(.ref v0), (.ref v1)] M (x_Ri q) _ rfl rfl (Nat.le_of_ble_eq_true rfl) (t_X5_read l H)
theorem lk_338 : Cond.methodLink RX6 3 Lib.objectInit ∈ x_TB := x_tb (k := 338) (by decide +kernel) rfl
theorem lk_339 : Cond.fieldLink RX6 9 RX6 "counter" "I" ∈ x_TB := x_tb (k := 339) (by decide +kernel) rfl
theorem lk_341 : Cond.fieldLink RX6 15 RX6 "sort" "I" ∈ x_TB := x_tb (k := 341) (by decide +kernel) rfl
theorem lk_356 : Cond.arrayClass (newarray.typeOf .long) ∈ x_TB := x_tb (k := 356) (by decide +kernel) rfl
abbrev m_X6_init : XU := (yX6_init, cX6_init, 1, none)
theorem cn_X6_init : m_X6_init.1.cls ≠ "java/lang/invoke/MethodHandle" ∧ m_X6_init.1.cls ≠ "java/lang/invoke/VarHandle" ∧ (parseMethodDescriptor m_X6_init.1.desc).map (fun q => q.parameters.length) = some 0 := by decide +kernel
def f_X6_init (v0 : Nat) (M : XM) : Option XM :=
  if x_tag M v0 = 6 + 10 then (x_lt (x_wi M v0 0 (-1 : Int32)) (fun M2 => x_lt (x_wi M2 v0 1 (-1 : Int32)) (fun M5 => x_al M5 2 160 (fun a9 M8 => if x_tag M8 v0 = 6 + 10 then (x_lt (x_wr M8 v0 3 a9) (fun M14 => some M14)) else none)))) else none
set_option maxRecDepth 20000 in
set_option maxHeartbeats 4000000 in
theorem t_X6_init (l : Launch) {v0 : Nat} {M : XM} {q : XM} (H : f_X6_init v0 M = some q) : AW l m_X6_init 1 1 160 (x_Rv q) 0 0 0 [some (.ref v0)] [] M := by
  unfold f_X6_init at H
  refine x_aload_n 0 0 dX6_init_0 rfl rfl ?_
  obtain ⟨h1, H⟩ := x_ckp H
  refine x_objInit 1 3 dX6_init_1 lk_338 lk_108 lk_109 h1 rfl (Nat.le_of_ble_eq_true rfl) (by decide) ?_
  refine x_aload_n 4 0 dX6_init_4 rfl rfl ?_
  refine x_iconst 5 (-1 : Int32) dX6_init_5 (by decide) ?_
  obtain ⟨M2, w3, H⟩ := x_lt_of H
  have h4 : x_tag M2 v0 = 6 + 10 := by rw [w3]; exact h1
  refine x_putI' 6 9 6 0 dX6_init_6 lk_339 (by decide) (by decide) rfl (Or.inl rfl) (Or.inl rfl) h1 w3 ?_
  refine x_aload_n 9 0 dX6_init_9 rfl rfl ?_
  refine x_iconst 10 (-1 : Int32) dX6_init_10 (by decide) ?_
  obtain ⟨M5, w6, H⟩ := x_lt_of H
  have h7 : x_tag M5 v0 = 6 + 10 := by rw [w6]; exact h4
  refine x_putI' 11 15 6 1 dX6_init_11 lk_341 (by decide) (by decide) rfl (Or.inl rfl) (Or.inl rfl) h4 w6 ?_
  refine x_aload_n 14 0 dX6_init_14 rfl rfl ?_
  refine x_sipush 15 (160 : Int32) dX6_init_15 (by decide) ?_
  obtain ⟨a9, M8, w10, w11, H⟩ := x_al_of H
  refine x_newL' 18 160 dX6_init_18 lk_356 (by decide) (by decide) (by decide) (Nat.le_of_ble_eq_true rfl) (Nat.le_of_ble_eq_true rfl) w10 w11 ?_
  have h12 : x_tag M8 a9 = 2 := x_al_tag w10 w11
  change AW _ _ _ _ _ _ 1 160 _ _ _ _
  obtain ⟨h13, H⟩ := x_ckp H
  obtain ⟨M14, w15, H⟩ := x_lt_of H
  have h16 : x_tag M14 a9 = 2 := by rw [w15]; exact h12
  have h17 : x_tag M14 v0 = 6 + 10 := by rw [w15]; exact h13
  refine x_putR' 20 18 6 3 dX6_init_20 lk_346 (by decide) (by decide) rfl (Or.inr ⟨_, rfl⟩) (Or.inr ⟨rfl, rfl⟩) h13 w15 ?_
  cases H
  exact x_vret 23 dX6_init_23 rfl (Nat.le_of_ble_eq_true rfl) (Nat.le_of_ble_eq_true rfl) ⟨rfl, rfl⟩

theorem ct_X6_init (l : Launch) {v0 : Nat} {M : XM} {q : XM} (H : f_X6_init v0 M = some q) : Ct l m_X6_init 1 1 160 [(.ref v0)] M (x_Rv q) := x_met l m_X6_init 1 1 160 [(.ref v0)] M (x_Rv q) _ rfl rfl (Nat.le_of_ble_eq_true rfl) (t_X6_init l H)
abbrev m_X6_hasRow : XU := (yX6_hasRow, cX6_hasRow, 1, (some .boolean))
theorem cn_X6_hasRow : m_X6_hasRow.1.cls ≠ "java/lang/invoke/MethodHandle" ∧ m_X6_hasRow.1.cls ≠ "java/lang/invoke/VarHandle" ∧ (parseMethodDescriptor m_X6_hasRow.1.desc).map (fun q => q.parameters.length) = some 0 := by decide +kernel
def f_X6_hasRow (v0 : Nat) (M : XM) : Option (Int32 × XM) :=
  if x_tag M v0 = 6 + 10 then (if (x_i M v0 1) = (-1 : Int32) then (some ((0 : Int32), M)) else (some ((1 : Int32), M))) else none
set_option maxRecDepth 20000 in
set_option maxHeartbeats 4000000 in
theorem t_X6_hasRow (l : Launch) {v0 : Nat} {M : XM} {q : Int32 × XM} (H : f_X6_hasRow v0 M = some q) : AW l m_X6_hasRow 1 0 0 (x_Ri q) 0 0 0 [some (.ref v0)] [] M := by
  unfold f_X6_hasRow at H
  refine x_aload_n 0 0 dX6_hasRow_0 rfl rfl ?_
  obtain ⟨h1, H⟩ := x_ckp H
  refine x_getf 1 15 6 1 (.int (x_i M v0 1)) dX6_hasRow_1 lk_341 (by decide) (by decide) rfl (fun _ => rfl) h1 ?_
  refine x_iconst 4 (-1 : Int32) dX6_hasRow_4 (by decide) ?_
  refine x_icmp_eq 5 12 dX6_hasRow_5 (by decide) (fun c2 => ?_) (fun c2 => ?_)
  · replace H := x_ifp c2 H
    refine x_iconst 12 (0 : Int32) dX6_hasRow_12 (by decide) ?_
    cases H
    exact x_iret 13 dX6_hasRow_13 .boolean rfl rfl (Nat.le_of_ble_eq_true rfl) (Nat.le_of_ble_eq_true rfl) ⟨rfl, rfl⟩
  · replace H := x_ifn c2 H
    refine x_iconst 8 (1 : Int32) dX6_hasRow_8 (by decide) ?_
    refine x_goto 9 13 dX6_hasRow_9 (by decide) ?_
    cases H
    exact x_iret 13 dX6_hasRow_13 .boolean rfl rfl (Nat.le_of_ble_eq_true rfl) (Nat.le_of_ble_eq_true rfl) ⟨rfl, rfl⟩

theorem ct_X6_hasRow (l : Launch) {v0 : Nat} {M : XM} {q : Int32 × XM} (H : f_X6_hasRow v0 M = some q) : Ct l m_X6_hasRow 1 0 0 [(.ref v0)] M (x_Ri q) := x_met l m_X6_hasRow 1 0 0 [(.ref v0)] M (x_Ri q) _ rfl rfl (Nat.le_of_ble_eq_true rfl) (t_X6_hasRow l H)
abbrev m_X6_hasCounter : XU := (yX6_hasCounter, cX6_hasCounter, 1, (some .boolean))
theorem cn_X6_hasCounter : m_X6_hasCounter.1.cls ≠ "java/lang/invoke/MethodHandle" ∧ m_X6_hasCounter.1.cls ≠ "java/lang/invoke/VarHandle" ∧ (parseMethodDescriptor m_X6_hasCounter.1.desc).map (fun q => q.parameters.length) = some 0 := by decide +kernel
def f_X6_hasCounter (v0 : Nat) (M : XM) : Option (Int32 × XM) :=
  if x_tag M v0 = 6 + 10 then (if (x_i M v0 0) = (-1 : Int32) then (some ((0 : Int32), M)) else (some ((1 : Int32), M))) else none
set_option maxRecDepth 20000 in
set_option maxHeartbeats 4000000 in
theorem t_X6_hasCounter (l : Launch) {v0 : Nat} {M : XM} {q : Int32 × XM} (H : f_X6_hasCounter v0 M = some q) : AW l m_X6_hasCounter 1 0 0 (x_Ri q) 0 0 0 [some (.ref v0)] [] M := by
  unfold f_X6_hasCounter at H
  refine x_aload_n 0 0 dX6_hasCounter_0 rfl rfl ?_
  obtain ⟨h1, H⟩ := x_ckp H
  refine x_getf 1 9 6 0 (.int (x_i M v0 0)) dX6_hasCounter_1 lk_339 (by decide) (by decide) rfl (fun _ => rfl) h1 ?_
  refine x_iconst 4 (-1 : Int32) dX6_hasCounter_4 (by decide) ?_
  refine x_icmp_eq 5 12 dX6_hasCounter_5 (by decide) (fun c2 => ?_) (fun c2 => ?_)
  · replace H := x_ifp c2 H
    refine x_iconst 12 (0 : Int32) dX6_hasCounter_12 (by decide) ?_
    cases H
    exact x_iret 13 dX6_hasCounter_13 .boolean rfl rfl (Nat.le_of_ble_eq_true rfl) (Nat.le_of_ble_eq_true rfl) ⟨rfl, rfl⟩
  · replace H := x_ifn c2 H
    refine x_iconst 8 (1 : Int32) dX6_hasCounter_8 (by decide) ?_
    refine x_goto 9 13 dX6_hasCounter_9 (by decide) ?_
    cases H
    exact x_iret 13 dX6_hasCounter_13 .boolean rfl rfl (Nat.le_of_ble_eq_true rfl) (Nat.le_of_ble_eq_true rfl) ⟨rfl, rfl⟩

theorem ct_X6_hasCounter (l : Launch) {v0 : Nat} {M : XM} {q : Int32 × XM} (H : f_X6_hasCounter v0 M = some q) : Ct l m_X6_hasCounter 1 0 0 [(.ref v0)] M (x_Ri q) := x_met l m_X6_hasCounter 1 0 0 [(.ref v0)] M (x_Ri q) _ rfl rfl (Nat.le_of_ble_eq_true rfl) (t_X6_hasCounter l H)
theorem lk_440 : Cond.code yX6_hasRow cX6_hasRow 1 (some .boolean) ∈ x_TB := x_tb (k := 440) (by decide +kernel) rfl
theorem lk_494 : Cond.methodLink RX6 22 yX6_hasRow ∈ x_TB := x_tb (k := 494) (by decide +kernel) rfl
theorem lk_439 : Cond.selects RX6 yX6_hasRow yX6_hasRow ∈ x_TB := x_tb (k := 439) (by decide +kernel) rfl
theorem lk_438 : Cond.instanceMethod yX6_hasRow ∈ x_TB := x_tb (k := 438) (by decide +kernel) rfl
abbrev m_X6_content : XU := (yX6_content, cX6_content, 1, (some .int))
theorem cn_X6_content : m_X6_content.1.cls ≠ "java/lang/invoke/MethodHandle" ∧ m_X6_content.1.cls ≠ "java/lang/invoke/VarHandle" ∧ (parseMethodDescriptor m_X6_content.1.desc).map (fun q => q.parameters.length) = some 0 := by decide +kernel
def f_X6_content (v0 : Nat) (M : XM) : Option (Int32 × XM) :=
  if x_tag M v0 = 6 + 10 then (x_bd (f_X6_hasRow v0 M) (fun r3 M2 => if r3 = 0 then (if x_tag M2 v0 = 6 + 10 then (some ((x_i M2 v0 0), M2)) else none) else (if x_tag M2 v0 = 6 + 10 then (some (((100 : Int32) + (x_i M2 v0 1)), M2)) else none))) else none
set_option maxRecDepth 20000 in
set_option maxHeartbeats 4000000 in
theorem t_X6_content (l : Launch) {v0 : Nat} {M : XM} {q : Int32 × XM} (H : f_X6_content v0 M = some q) : AW l m_X6_content 2 0 0 (x_Ri q) 0 0 0 [some (.ref v0)] [] M := by
  unfold f_X6_content at H
  refine x_aload_n 0 0 dX6_content_0 rfl rfl ?_
  obtain ⟨h1, H⟩ := x_ckp H
  obtain ⟨r3, M2, e4, H⟩ := x_bd_of H
  refine x_callV 1 22 6 [] [] dX6_content_1 (ct_X6_hasRow l e4) lk_494 lk_438 lk_439 (by decide) h1 lk_93 lk_440 ⟨cn_X6_hasRow, (by decide), by decide⟩ rfl (Nat.le_of_ble_eq_true rfl) (Nat.le_of_ble_eq_true rfl) (Nat.le_of_ble_eq_true rfl) (x_ri ?_)
  refine x_if_eq 4 17 dX6_content_4 (by decide) (fun c5 => ?_) (fun c5 => ?_)
  · replace H := x_ifp c5 H
    refine x_aload_n 17 0 dX6_content_17 rfl rfl ?_
    obtain ⟨h6, H⟩ := x_ckp H
    refine x_getf 18 9 6 0 (.int (x_i M2 v0 0)) dX6_content_18 lk_339 (by decide) (by decide) rfl (fun _ => rfl) h6 ?_
    cases H
    exact x_iret 21 dX6_content_21 .int rfl rfl (Nat.le_of_ble_eq_true rfl) (Nat.le_of_ble_eq_true rfl) ⟨rfl, rfl⟩
  · replace H := x_ifn c5 H
    refine x_bipush 7 (100 : Int32) dX6_content_7 (by decide) ?_
    refine x_aload_n 9 0 dX6_content_9 rfl rfl ?_
    obtain ⟨h7, H⟩ := x_ckp H
    refine x_getf 10 15 6 1 (.int (x_i M2 v0 1)) dX6_content_10 lk_341 (by decide) (by decide) rfl (fun _ => rfl) h7 ?_
    refine x_iadd 13 dX6_content_13 ?_
    refine x_goto 14 21 dX6_content_14 (by decide) ?_
    cases H
    exact x_iret 21 dX6_content_21 .int rfl rfl (Nat.le_of_ble_eq_true rfl) (Nat.le_of_ble_eq_true rfl) ⟨rfl, rfl⟩

theorem ct_X6_content (l : Launch) {v0 : Nat} {M : XM} {q : Int32 × XM} (H : f_X6_content v0 M = some q) : Ct l m_X6_content 2 0 0 [(.ref v0)] M (x_Ri q) := x_met l m_X6_content 2 0 0 [(.ref v0)] M (x_Ri q) _ rfl rfl (Nat.le_of_ble_eq_true rfl) (t_X6_content l H)
abbrev m_J7_fill_d0a16 : XU := (yJ7_fill_d0a16, cJ7_fill_d0a16, 5, none)
theorem cn_J7_fill_d0a16 : m_J7_fill_d0a16.1.cls ≠ "java/lang/invoke/MethodHandle" ∧ m_J7_fill_d0a16.1.cls ≠ "java/lang/invoke/VarHandle" ∧ (parseMethodDescriptor m_J7_fill_d0a16.1.desc).map (fun q => q.parameters.length) = some 2 := by decide +kernel
def bd_J7_fill_d0a16_6 (κ6 : Nat → Int64 → Int32 → Int32 → XM → Option XM) (v0 : Nat) (v1 : Int64) (v3 : Int32) (v4 : Int32) (M : XM) : Option XM :=
  if v4 ≤ v3 then (some M) else (if x_at M v0 2 v3 = true then (x_lt (x_wj M v0 v3.toNatClampNeg v1) (fun M4 => κ6 v0 v1 (v3 + (1 : Int32)) v4 M4)) else none)
set_option maxRecDepth 20000 in
set_option maxHeartbeats 4000000 in
theorem tb_J7_fill_d0a16_6 (l : Launch) {κ6 : Nat → Int64 → Int32 → Int32 → XM → Option XM} {v0 : Nat} {v1 : Int64} {v3 : Int32} {v4 : Int32} {M : XM} {q : XM} (hκ6 : ∀ (v0 : Nat) (v1 : Int64) (v3 : Int32) (v4 : Int32) (M : XM), κ6 v0 v1 v3 v4 M = some q → AW l m_J7_fill_d0a16 1 0 0 (x_Rv q) 0 0 6 [some (.ref v0), some (.long v1), none, some (.int v3), some (.int v4)] [] M) (H : bd_J7_fill_d0a16_6 κ6 v0 v1 v3 v4 M = some q) : AW l m_J7_fill_d0a16 1 0 0 (x_Rv q) 0 0 6 [some (.ref v0), some (.long v1), none, some (.int v3), some (.int v4)] [] M := by
  unfold bd_J7_fill_d0a16_6 at H
  refine x_iload_n 6 3 dJ7_fill_d0a16_6 rfl rfl ?_
  refine x_iload 7 4 dJ7_fill_d0a16_7 rfl ?_
  refine x_icmp_ge 9 22 dJ7_fill_d0a16_9 (by decide) (fun c2 => ?_) (fun c2 => ?_)
  · replace H := x_ifp c2 H
    cases H
    exact x_vret 22 dJ7_fill_d0a16_22 rfl (Nat.le_of_ble_eq_true rfl) (Nat.le_of_ble_eq_true rfl) ⟨rfl, rfl⟩
  · replace H := x_ifn c2 H
    refine x_aload_n 12 0 dJ7_fill_d0a16_12 rfl rfl ?_
    refine x_iload_n 13 3 dJ7_fill_d0a16_13 rfl rfl ?_
    refine x_lload_n 14 1 dJ7_fill_d0a16_14 rfl rfl ?_
    obtain ⟨h3, H⟩ := x_ckp H
    obtain ⟨M4, w5, H⟩ := x_lt_of H
    have h6 : x_at M4 v0 2 v3 = true := by rw [w5]; exact h3
    have h7 : x_tag M4 v0 = 2 := by rw [w5]; exact (x_at_1 h3)
    refine x_last' 15 dJ7_fill_d0a16_15 h3 w5 ?_
    refine x_iinc 16 3 (v3 + (1 : Int32)) [some (.ref v0), some (.long v1), none, some (.int (v3 + (1 : Int32))), some (.int v4)] dJ7_fill_d0a16_16 rfl (congrArg (fun z : Int32 => v3 + z) (show Int32.ofInt (1) = (1 : Int32) by decide)) rfl (Nat.le_of_ble_eq_true rfl) rfl ?_
    refine x_goto 19 6 dJ7_fill_d0a16_19 (by decide) ?_
    exact hκ6 _ _ _ _ _ H

def lp_J7_fill_d0a16_6 (n : Nat) : Nat → Int64 → Int32 → Int32 → XM → Option XM := x_rec (fun _ _ _ _ _ => none) (bd_J7_fill_d0a16_6) n
theorem t_J7_fill_d0a16_6 (l : Launch) {q : XM} : ∀ (n : Nat) (v0 : Nat) (v1 : Int64) (v3 : Int32) (v4 : Int32) (M : XM), lp_J7_fill_d0a16_6 n v0 v1 v3 v4 M = some q → AW l m_J7_fill_d0a16 1 0 0 (x_Rv q) 0 0 6 [some (.ref v0), some (.long v1), none, some (.int v3), some (.int v4)] [] M := by
  intro n
  induction n with
  | zero => intro v0 v1 v3 v4 M H; cases H
  | succ n ih => intro v0 v1 v3 v4 M H; exact tb_J7_fill_d0a16_6 l ih H
def f_J7_fill_d0a16 (v0 : Nat) (v1 : Int64) (M : XM) : Option XM :=
  if x_tag M v0 = 2 then (lp_J7_fill_d0a16_6 x_fuel v0 v1 (0 : Int32) (Int32.ofNat (x_len M v0)) M) else none
set_option maxRecDepth 20000 in
set_option maxHeartbeats 4000000 in
theorem t_J7_fill_d0a16 (l : Launch) {v0 : Nat} {v1 : Int64} {M : XM} {q : XM} (H : f_J7_fill_d0a16 v0 v1 M = some q) : AW l m_J7_fill_d0a16 1 0 0 (x_Rv q) 0 0 0 [some (.ref v0), some (.long v1), none, none, none] [] M := by
  unfold f_J7_fill_d0a16 at H
  refine x_iconst 0 (0 : Int32) dJ7_fill_d0a16_0 (by decide) ?_
  refine x_istore_n 1 3 [some (.ref v0), some (.long v1), none, some (.int (0 : Int32)), none] dJ7_fill_d0a16_1 rfl rfl (Nat.le_of_ble_eq_true rfl) rfl ?_
  refine x_aload_n 2 0 dJ7_fill_d0a16_2 rfl rfl ?_
  obtain ⟨h1, H⟩ := x_ckp H
  refine x_alen 3 2 dJ7_fill_d0a16_3 h1 (by decide) ?_
  refine x_istore 4 4 [some (.ref v0), some (.long v1), none, some (.int (0 : Int32)), some (.int (Int32.ofNat (x_len M v0)))] dJ7_fill_d0a16_4 rfl (Nat.le_of_ble_eq_true rfl) rfl ?_
  exact t_J7_fill_d0a16_6 l _ _ _ _ _ _ H

theorem ct_J7_fill_d0a16 (l : Launch) {v0 : Nat} {v1 : Int64} {M : XM} {q : XM} (H : f_J7_fill_d0a16 v0 v1 M = some q) : Ct l m_J7_fill_d0a16 1 0 0 [(.ref v0), (.long v1)] M (x_Rv q) := x_met l m_J7_fill_d0a16 1 0 0 [(.ref v0), (.long v1)] M (x_Rv q) _ rfl rfl (Nat.le_of_ble_eq_true rfl) (t_J7_fill_d0a16 l H)
theorem lk_420 : Cond.code yJ7_fill_d0a16 cJ7_fill_d0a16 5 none ∈ x_TB := x_tb (k := 420) (by decide +kernel) rfl
theorem lk_418 : Cond.methodLink RX6 29 yJ7_fill_d0a16 ∈ x_TB := x_tb (k := 418) (by decide +kernel) rfl
theorem lk_419 : Cond.static yJ7_fill_d0a16 ∈ x_TB := x_tb (k := 419) (by decide +kernel) rfl
abbrev m_X6_holdRow : XU := (yX6_holdRow, cX6_holdRow, 3, none)
theorem cn_X6_holdRow : m_X6_holdRow.1.cls ≠ "java/lang/invoke/MethodHandle" ∧ m_X6_holdRow.1.cls ≠ "java/lang/invoke/VarHandle" ∧ (parseMethodDescriptor m_X6_holdRow.1.desc).map (fun q => q.parameters.length) = some 2 := by decide +kernel
def f_X6_holdRow (v0 : Nat) (v1 : Int32) (v2 : Int32) (M : XM) : Option XM :=
  if x_tag M v0 = 6 + 10 then (x_lt (x_wi M v0 0 (-1 : Int32)) (fun M2 => x_lt (x_wi M2 v0 1 v1) (fun M5 => x_lt (x_wi M5 v0 2 v2) (fun M8 => x_bv (f_J7_fill_d0a16 (x_r M8 v0 3) (0 : Int64) M8) (fun M11 => some M11))))) else none
set_option maxRecDepth 20000 in
set_option maxHeartbeats 4000000 in
theorem t_X6_holdRow (l : Launch) {v0 : Nat} {v1 : Int32} {v2 : Int32} {M : XM} {q : XM} (H : f_X6_holdRow v0 v1 v2 M = some q) : AW l m_X6_holdRow 2 0 0 (x_Rv q) 0 0 0 [some (.ref v0), some (.int v1), some (.int v2)] [] M := by
  unfold f_X6_holdRow at H
  refine x_aload_n 0 0 dX6_holdRow_0 rfl rfl ?_
  refine x_iconst 1 (-1 : Int32) dX6_holdRow_1 (by decide) ?_
  obtain ⟨h1, H⟩ := x_ckp H
  obtain ⟨M2, w3, H⟩ := x_lt_of H
  have h4 : x_tag M2 v0 = 6 + 10 := by rw [w3]; exact h1
  refine x_putI' 2 9 6 0 dX6_holdRow_2 lk_339 (by decide) (by decide) rfl (Or.inl rfl) (Or.inl rfl) h1 w3 ?_
  refine x_aload_n 5 0 dX6_holdRow_5 rfl rfl ?_
  refine x_iload_n 6 1 dX6_holdRow_6 rfl rfl ?_
  obtain ⟨M5, w6, H⟩ := x_lt_of H
  have h7 : x_tag M5 v0 = 6 + 10 := by rw [w6]; exact h4
  refine x_putI' 7 15 6 1 dX6_holdRow_7 lk_341 (by decide) (by decide) rfl (Or.inl rfl) (Or.inl rfl) h4 w6 ?_
  refine x_aload_n 10 0 dX6_holdRow_10 rfl rfl ?_
  refine x_iload_n 11 2 dX6_holdRow_11 rfl rfl ?_
  obtain ⟨M8, w9, H⟩ := x_lt_of H
  have h10 : x_tag M8 v0 = 6 + 10 := by rw [w9]; exact h7
  refine x_putI' 12 26 6 2 dX6_holdRow_12 lk_344 (by decide) (by decide) rfl (Or.inl rfl) (Or.inl rfl) h7 w9 ?_
  refine x_aload_n 15 0 dX6_holdRow_15 rfl rfl ?_
  refine x_getf 16 18 6 3 (.ref (x_r M8 v0 3)) dX6_holdRow_16 lk_346 (by decide) (by decide) rfl (fun _ => rfl) h10 ?_
  refine x_lconst 19 (0 : Int64) dX6_holdRow_19 (by decide) ?_
  obtain ⟨M11, e13, H⟩ := x_bv_of H
  refine x_callS 20 29 [(.ref (x_r M8 v0 3)), (.long (0 : Int64))] [] dX6_holdRow_20 (ct_J7_fill_d0a16 l e13) lk_418 lk_419 lk_95 lk_420 ⟨cn_J7_fill_d0a16, (by decide), by decide⟩ rfl (Nat.le_of_ble_eq_true rfl) (Nat.le_of_ble_eq_true rfl) (Nat.le_of_ble_eq_true rfl) (x_rv ?_)
  cases H
  exact x_vret 23 dX6_holdRow_23 rfl (Nat.le_of_ble_eq_true rfl) (Nat.le_of_ble_eq_true rfl) ⟨rfl, rfl⟩

theorem ct_X6_holdRow (l : Launch) {v0 : Nat} {v1 : Int32} {v2 : Int32} {M : XM} {q : XM} (H : f_X6_holdRow v0 v1 v2 M = some q) : Ct l m_X6_holdRow 2 0 0 [(.ref v0), (.int v1), (.int v2)] M (x_Rv q) := x_met l m_X6_holdRow 2 0 0 [(.ref v0), (.int v1), (.int v2)] M (x_Rv q) _ rfl rfl (Nat.le_of_ble_eq_true rfl) (t_X6_holdRow l H)
abbrev m_X6_holdCounter : XU := (yX6_holdCounter, cX6_holdCounter, 2, none)
theorem cn_X6_holdCounter : m_X6_holdCounter.1.cls ≠ "java/lang/invoke/MethodHandle" ∧ m_X6_holdCounter.1.cls ≠ "java/lang/invoke/VarHandle" ∧ (parseMethodDescriptor m_X6_holdCounter.1.desc).map (fun q => q.parameters.length) = some 1 := by decide +kernel
def f_X6_holdCounter (v0 : Nat) (v1 : Int32) (M : XM) : Option XM :=
  if x_tag M v0 = 6 + 10 then (x_lt (x_wi M v0 0 v1) (fun M2 => x_lt (x_wi M2 v0 1 (-1 : Int32)) (fun M5 => x_lt (x_wi M5 v0 2 (0 : Int32)) (fun M8 => some M8)))) else none
set_option maxRecDepth 20000 in
set_option maxHeartbeats 4000000 in
theorem t_X6_holdCounter (l : Launch) {v0 : Nat} {v1 : Int32} {M : XM} {q : XM} (H : f_X6_holdCounter v0 v1 M = some q) : AW l m_X6_holdCounter 1 0 0 (x_Rv q) 0 0 0 [some (.ref v0), some (.int v1)] [] M := by
  unfold f_X6_holdCounter at H
  refine x_aload_n 0 0 dX6_holdCounter_0 rfl rfl ?_
  refine x_iload_n 1 1 dX6_holdCounter_1 rfl rfl ?_
  obtain ⟨h1, H⟩ := x_ckp H
  obtain ⟨M2, w3, H⟩ := x_lt_of H
  have h4 : x_tag M2 v0 = 6 + 10 := by rw [w3]; exact h1
  refine x_putI' 2 9 6 0 dX6_holdCounter_2 lk_339 (by decide) (by decide) rfl (Or.inl rfl) (Or.inl rfl) h1 w3 ?_
  refine x_aload_n 5 0 dX6_holdCounter_5 rfl rfl ?_
  refine x_iconst 6 (-1 : Int32) dX6_holdCounter_6 (by decide) ?_
  obtain ⟨M5, w6, H⟩ := x_lt_of H
  have h7 : x_tag M5 v0 = 6 + 10 := by rw [w6]; exact h4
  refine x_putI' 7 15 6 1 dX6_holdCounter_7 lk_341 (by decide) (by decide) rfl (Or.inl rfl) (Or.inl rfl) h4 w6 ?_
  refine x_aload_n 10 0 dX6_holdCounter_10 rfl rfl ?_
  refine x_iconst 11 (0 : Int32) dX6_holdCounter_11 (by decide) ?_
  obtain ⟨M8, w9, H⟩ := x_lt_of H
  have h10 : x_tag M8 v0 = 6 + 10 := by rw [w9]; exact h7
  refine x_putI' 12 26 6 2 dX6_holdCounter_12 lk_344 (by decide) (by decide) rfl (Or.inl rfl) (Or.inl rfl) h7 w9 ?_
  cases H
  exact x_vret 15 dX6_holdCounter_15 rfl (Nat.le_of_ble_eq_true rfl) (Nat.le_of_ble_eq_true rfl) ⟨rfl, rfl⟩

theorem ct_X6_holdCounter (l : Launch) {v0 : Nat} {v1 : Int32} {M : XM} {q : XM} (H : f_X6_holdCounter v0 v1 M = some q) : Ct l m_X6_holdCounter 1 0 0 [(.ref v0), (.int v1)] M (x_Rv q) := x_met l m_X6_holdCounter 1 0 0 [(.ref v0), (.int v1)] M (x_Rv q) _ rfl rfl (Nat.le_of_ble_eq_true rfl) (t_X6_holdCounter l H)
abbrev m_X6_hasPart : XU := (yX6_hasPart, cX6_hasPart, 3, (some .boolean))
theorem cn_X6_hasPart : m_X6_hasPart.1.cls ≠ "java/lang/invoke/MethodHandle" ∧ m_X6_hasPart.1.cls ≠ "java/lang/invoke/VarHandle" ∧ (parseMethodDescriptor m_X6_hasPart.1.desc).map (fun q => q.parameters.length) = some 2 := by decide +kernel
def f_X6_hasPart (v0 : Nat) (v1 : Int32) (v2 : Int32) (M : XM) : Option (Int32 × XM) :=
  if v1 < 0 then (some ((0 : Int32), M)) else (if v2 < 0 then (some ((0 : Int32), M)) else (if x_tag M v0 = 6 + 10 then (if ((x_i M v0 2) - v1) < v2 then (some ((0 : Int32), M)) else (some ((1 : Int32), M))) else none))
set_option maxRecDepth 20000 in
set_option maxHeartbeats 4000000 in
theorem t_X6_hasPart (l : Launch) {v0 : Nat} {v1 : Int32} {v2 : Int32} {M : XM} {q : Int32 × XM} (H : f_X6_hasPart v0 v1 v2 M = some q) : AW l m_X6_hasPart 1 0 0 (x_Ri q) 0 0 0 [some (.ref v0), some (.int v1), some (.int v2)] [] M := by
  unfold f_X6_hasPart at H
  refine x_iload_n 0 1 dX6_hasPart_0 rfl rfl ?_
  refine x_if_lt 1 22 dX6_hasPart_1 (by decide) (fun c1 => ?_) (fun c1 => ?_)
  · replace H := x_ifp c1 H
    refine x_iconst 22 (0 : Int32) dX6_hasPart_22 (by decide) ?_
    cases H
    exact x_iret 23 dX6_hasPart_23 .boolean rfl rfl (Nat.le_of_ble_eq_true rfl) (Nat.le_of_ble_eq_true rfl) ⟨rfl, rfl⟩
  · replace H := x_ifn c1 H
    refine x_iload_n 4 2 dX6_hasPart_4 rfl rfl ?_
    refine x_if_lt 5 22 dX6_hasPart_5 (by decide) (fun c2 => ?_) (fun c2 => ?_)
    · replace H := x_ifp c2 H
      refine x_iconst 22 (0 : Int32) dX6_hasPart_22 (by decide) ?_
      cases H
      exact x_iret 23 dX6_hasPart_23 .boolean rfl rfl (Nat.le_of_ble_eq_true rfl) (Nat.le_of_ble_eq_true rfl) ⟨rfl, rfl⟩
    · replace H := x_ifn c2 H
      refine x_iload_n 8 2 dX6_hasPart_8 rfl rfl ?_
      refine x_aload_n 9 0 dX6_hasPart_9 rfl rfl ?_
      obtain ⟨h3, H⟩ := x_ckp H
      refine x_getf 10 26 6 2 (.int (x_i M v0 2)) dX6_hasPart_10 lk_344 (by decide) (by decide) rfl (fun _ => rfl) h3 ?_
      refine x_iload_n 13 1 dX6_hasPart_13 rfl rfl ?_
      refine x_isub 14 dX6_hasPart_14 ?_
      refine x_icmp_gt 15 22 dX6_hasPart_15 (by decide) (fun c4 => ?_) (fun c4 => ?_)
      · replace H := x_ifp c4 H
        refine x_iconst 22 (0 : Int32) dX6_hasPart_22 (by decide) ?_
        cases H
        exact x_iret 23 dX6_hasPart_23 .boolean rfl rfl (Nat.le_of_ble_eq_true rfl) (Nat.le_of_ble_eq_true rfl) ⟨rfl, rfl⟩
      · replace H := x_ifn c4 H
        refine x_iconst 18 (1 : Int32) dX6_hasPart_18 (by decide) ?_
        refine x_goto 19 23 dX6_hasPart_19 (by decide) ?_
        cases H
        exact x_iret 23 dX6_hasPart_23 .boolean rfl rfl (Nat.le_of_ble_eq_true rfl) (Nat.le_of_ble_eq_true rfl) ⟨rfl, rfl⟩

theorem ct_X6_hasPart (l : Launch) {v0 : Nat} {v1 : Int32} {v2 : Int32} {M : XM} {q : Int32 × XM} (H : f_X6_hasPart v0 v1 v2 M = some q) : Ct l m_X6_hasPart 1 0 0 [(.ref v0), (.int v1), (.int v2)] M (x_Ri q) := x_met l m_X6_hasPart 1 0 0 [(.ref v0), (.int v1), (.int v2)] M (x_Ri q) _ rfl rfl (Nat.le_of_ble_eq_true rfl) (t_X6_hasPart l H)
abbrev m_X6_become : XU := (yX6_become, cX6_become, 4, none)
theorem cn_X6_become : m_X6_become.1.cls ≠ "java/lang/invoke/MethodHandle" ∧ m_X6_become.1.cls ≠ "java/lang/invoke/VarHandle" ∧ (parseMethodDescriptor m_X6_become.1.desc).map (fun q => q.parameters.length) = some 2 := by decide +kernel
def f_X6_become (v0 : Nat) (v1 : Int32) (v2 : Int64) (M : XM) : Option XM :=
  if x_tag M v0 = 6 + 10 then (x_bd (f_X6_hasElement v0 v1 M) (fun r3 M2 => if r3 = 0 then (some M2) else (if x_tag M2 v0 = 6 + 10 then (if (x_i M2 v0 1) = (0 : Int32) then (if x_at M2 (x_r M2 v0 3) 2 v1 = true then (x_lt (x_wj M2 (x_r M2 v0 3) v1.toNatClampNeg (((v2.toInt32).toInt8.toInt32).toInt64)) (fun M9 => some M9)) else none) else if (x_i M2 v0 1) = (1 : Int32) then (if x_at M2 (x_r M2 v0 3) 2 v1 = true then (x_lt (x_wj M2 (x_r M2 v0 3) v1.toNatClampNeg (((v2.toInt32).toInt16.toInt32).toInt64)) (fun M16 => some M16)) else none) else if (x_i M2 v0 1) = (2 : Int32) then (if x_at M2 (x_r M2 v0 3) 2 v1 = true then (x_lt (x_wj M2 (x_r M2 v0 3) v1.toNatClampNeg ((v2.toInt32).toInt64)) (fun M23 => some M23)) else none) else if x_at M2 (x_r M2 v0 3) 2 v1 = true then (x_lt (x_wj M2 (x_r M2 v0 3) v1.toNatClampNeg v2) (fun M29 => some M29)) else none) else none))) else none
set_option maxRecDepth 20000 in
set_option maxHeartbeats 4000000 in
theorem t_X6_become (l : Launch) {v0 : Nat} {v1 : Int32} {v2 : Int64} {M : XM} {q : XM} (H : f_X6_become v0 v1 v2 M = some q) : AW l m_X6_become 2 0 0 (x_Rv q) 0 0 0 [some (.ref v0), some (.int v1), some (.long v2), none] [] M := by
  unfold f_X6_become at H
  refine x_aload_n 0 0 dX6_become_0 rfl rfl ?_
  refine x_iload_n 1 1 dX6_become_1 rfl rfl ?_
  obtain ⟨h1, H⟩ := x_ckp H
  obtain ⟨r3, M2, e4, H⟩ := x_bd_of H
  refine x_callV 2 35 6 [(.int v1)] [] dX6_become_2 (ct_X6_hasElement l e4) lk_449 lk_442 lk_443 (by decide) h1 lk_93 lk_444 ⟨cn_X6_hasElement, (by decide), by decide⟩ rfl (Nat.le_of_ble_eq_true rfl) (Nat.le_of_ble_eq_true rfl) (Nat.le_of_ble_eq_true rfl) (x_ri ?_)
  refine x_if_ne 5 9 dX6_become_5 (by decide) (fun c5 => ?_) (fun c5 => ?_)
  · replace H := x_ifn c5 H
    refine x_aload_n 9 0 dX6_become_9 rfl rfl ?_
    obtain ⟨h6, H⟩ := x_ckp H
    refine x_getf 10 15 6 1 (.int (x_i M2 v0 1)) dX6_become_10 lk_341 (by decide) (by decide) rfl (fun _ => rfl) h6 ?_
    by_cases c7 : (x_i M2 v0 1) = (0 : Int32)
    · replace H := x_ifp c7 H
      refine x_tableIn (off := 27) 13 40 dX6_become_13 (by rw [c7]; decide) (by rw [c7]; decide) (by rw [c7]; rfl) (by decide) ?_
      refine x_aload_n 40 0 dX6_become_40 rfl rfl ?_
      refine x_getf 41 18 6 3 (.ref (x_r M2 v0 3)) dX6_become_41 lk_346 (by decide) (by decide) rfl (fun _ => rfl) h6 ?_
      refine x_iload_n 44 1 dX6_become_44 rfl rfl ?_
      refine x_lload_n 45 2 dX6_become_45 rfl rfl ?_
      refine x_l2i 46 dX6_become_46 ?_
      refine x_i2b 47 dX6_become_47 ?_
      refine x_i2l 48 dX6_become_48 ?_
      obtain ⟨h8, H⟩ := x_ckp H
      obtain ⟨M9, w10, H⟩ := x_lt_of H
      have h11 : x_tag M9 v0 = 6 + 10 := by rw [w10]; exact h6
      have h12 : x_at M9 (x_r M2 v0 3) 2 v1 = true := by rw [w10]; exact h8
      have h13 : x_tag M9 (x_r M2 v0 3) = 2 := by rw [w10]; exact (x_at_1 h8)
      refine x_last' 49 dX6_become_49 h8 w10 ?_
      refine x_goto 50 85 dX6_become_50 (by decide) ?_
      cases H
      exact x_vret 85 dX6_become_85 rfl (Nat.le_of_ble_eq_true rfl) (Nat.le_of_ble_eq_true rfl) ⟨rfl, rfl⟩
    · replace H := x_ifn c7 H
      by_cases c14 : (x_i M2 v0 1) = (1 : Int32)
      · replace H := x_ifp c14 H
        refine x_tableIn (off := 40) 13 53 dX6_become_13 (by rw [c14]; decide) (by rw [c14]; decide) (by rw [c14]; rfl) (by decide) ?_
        refine x_aload_n 53 0 dX6_become_53 rfl rfl ?_
        refine x_getf 54 18 6 3 (.ref (x_r M2 v0 3)) dX6_become_54 lk_346 (by decide) (by decide) rfl (fun _ => rfl) h6 ?_
        refine x_iload_n 57 1 dX6_become_57 rfl rfl ?_
        refine x_lload_n 58 2 dX6_become_58 rfl rfl ?_
        refine x_l2i 59 dX6_become_59 ?_
        refine x_i2s 60 dX6_become_60 ?_
        refine x_i2l 61 dX6_become_61 ?_
        obtain ⟨h15, H⟩ := x_ckp H
        obtain ⟨M16, w17, H⟩ := x_lt_of H
        have h18 : x_tag M16 v0 = 6 + 10 := by rw [w17]; exact h6
        have h19 : x_at M16 (x_r M2 v0 3) 2 v1 = true := by rw [w17]; exact h15
        have h20 : x_tag M16 (x_r M2 v0 3) = 2 := by rw [w17]; exact (x_at_1 h15)
        refine x_last' 62 dX6_become_62 h15 w17 ?_
        refine x_goto 63 85 dX6_become_63 (by decide) ?_
        cases H
        exact x_vret 85 dX6_become_85 rfl (Nat.le_of_ble_eq_true rfl) (Nat.le_of_ble_eq_true rfl) ⟨rfl, rfl⟩
      · replace H := x_ifn c14 H
        by_cases c21 : (x_i M2 v0 1) = (2 : Int32)
        · replace H := x_ifp c21 H
          refine x_tableIn (off := 53) 13 66 dX6_become_13 (by rw [c21]; decide) (by rw [c21]; decide) (by rw [c21]; rfl) (by decide) ?_
          refine x_aload_n 66 0 dX6_become_66 rfl rfl ?_
          refine x_getf 67 18 6 3 (.ref (x_r M2 v0 3)) dX6_become_67 lk_346 (by decide) (by decide) rfl (fun _ => rfl) h6 ?_
          refine x_iload_n 70 1 dX6_become_70 rfl rfl ?_
          refine x_lload_n 71 2 dX6_become_71 rfl rfl ?_
          refine x_l2i 72 dX6_become_72 ?_
          refine x_i2l 73 dX6_become_73 ?_
          obtain ⟨h22, H⟩ := x_ckp H
          obtain ⟨M23, w24, H⟩ := x_lt_of H
          have h25 : x_tag M23 v0 = 6 + 10 := by rw [w24]; exact h6
          have h26 : x_at M23 (x_r M2 v0 3) 2 v1 = true := by rw [w24]; exact h22
          have h27 : x_tag M23 (x_r M2 v0 3) = 2 := by rw [w24]; exact (x_at_1 h22)
          refine x_last' 74 dX6_become_74 h22 w24 ?_
          refine x_goto 75 85 dX6_become_75 (by decide) ?_
          cases H
          exact x_vret 85 dX6_become_85 rfl (Nat.le_of_ble_eq_true rfl) (Nat.le_of_ble_eq_true rfl) ⟨rfl, rfl⟩
        · replace H := x_ifn c21 H
          refine x_tableOut 13 78 dX6_become_13 (by have n0 := lv_neT (a := 0) c7 (by decide); have n1 := lv_neT (a := 1) c14 (by decide); have n2 := lv_neT (a := 2) c21 (by decide); omega) (by decide) ?_
          refine x_aload_n 78 0 dX6_become_78 rfl rfl ?_
          refine x_getf 79 18 6 3 (.ref (x_r M2 v0 3)) dX6_become_79 lk_346 (by decide) (by decide) rfl (fun _ => rfl) h6 ?_
          refine x_iload_n 82 1 dX6_become_82 rfl rfl ?_
          refine x_lload_n 83 2 dX6_become_83 rfl rfl ?_
          obtain ⟨h28, H⟩ := x_ckp H
          obtain ⟨M29, w30, H⟩ := x_lt_of H
          have h31 : x_tag M29 v0 = 6 + 10 := by rw [w30]; exact h6
          have h32 : x_at M29 (x_r M2 v0 3) 2 v1 = true := by rw [w30]; exact h28
          have h33 : x_tag M29 (x_r M2 v0 3) = 2 := by rw [w30]; exact (x_at_1 h28)
          refine x_last' 84 dX6_become_84 h28 w30 ?_
          cases H
          exact x_vret 85 dX6_become_85 rfl (Nat.le_of_ble_eq_true rfl) (Nat.le_of_ble_eq_true rfl) ⟨rfl, rfl⟩
  · replace H := x_ifp c5 H
    cases H
    exact x_vret 8 dX6_become_8 rfl (Nat.le_of_ble_eq_true rfl) (Nat.le_of_ble_eq_true rfl) ⟨rfl, rfl⟩

theorem ct_X6_become (l : Launch) {v0 : Nat} {v1 : Int32} {v2 : Int64} {M : XM} {q : XM} (H : f_X6_become v0 v1 v2 M = some q) : Ct l m_X6_become 2 0 0 [(.ref v0), (.int v1), (.long v2)] M (x_Rv q) := x_met l m_X6_become 2 0 0 [(.ref v0), (.int v1), (.long v2)] M (x_Rv q) _ rfl rfl (Nat.le_of_ble_eq_true rfl) (t_X6_become l H)
theorem lk_457 : Cond.code yX6_hasPart cX6_hasPart 3 (some .boolean) ∈ x_TB := x_tb (k := 457) (by decide +kernel) rfl
theorem lk_462 : Cond.methodLink RX6 43 yX6_hasPart ∈ x_TB := x_tb (k := 462) (by decide +kernel) rfl
theorem lk_456 : Cond.selects RX6 yX6_hasPart yX6_hasPart ∈ x_TB := x_tb (k := 456) (by decide +kernel) rfl
theorem lk_455 : Cond.instanceMethod yX6_hasPart ∈ x_TB := x_tb (k := 455) (by decide +kernel) rfl
theorem lk_463 : Cond.methodLink RX6 47 arraycopyName ∈ x_TB := x_tb (k := 463) (by decide +kernel) rfl
theorem lk_465 : Cond.native arraycopyName ∈ x_TB := x_tb (k := 465) (by decide +kernel) rfl
theorem lk_464 : Cond.static arraycopyName ∈ x_TB := x_tb (k := 464) (by decide +kernel) rfl
theorem lk_96 : Cond.initialized "java/lang/System" ∈ x_TB := x_tb (k := 96) (by decide +kernel) rfl
abbrev m_X6_takePart : XU := (yX6_takePart, cX6_takePart, 5, none)
theorem cn_X6_takePart : m_X6_takePart.1.cls ≠ "java/lang/invoke/MethodHandle" ∧ m_X6_takePart.1.cls ≠ "java/lang/invoke/VarHandle" ∧ (parseMethodDescriptor m_X6_takePart.1.desc).map (fun q => q.parameters.length) = some 4 := by decide +kernel
def f_X6_takePart (v0 : Nat) (v1 : Nat) (v2 : Int32) (v3 : Int32) (v4 : Int32) (M : XM) : Option XM :=
  if x_tag M v1 = 6 + 10 then (x_bd (f_X6_hasPart v1 v2 v4 M) (fun r3 M2 => if r3 = 0 then (some M2) else (if x_tag M2 v0 = 6 + 10 then (x_bd (f_X6_hasPart v0 v3 v4 M2) (fun r8 M7 => if r8 = 0 then (some M7) else (if x_tag M7 v1 = 6 + 10 then (if x_tag M7 v0 = 6 + 10 then (if x_cpok M7 (x_r M7 v1 3) (x_r M7 v0 3) v2 v3 v4 = true then (x_lt (x_cpj M7 (x_r M7 v1 3) v2.toNatClampNeg (x_r M7 v0 3) v3.toNatClampNeg v4.toNatClampNeg) (fun M14 => some M14)) else none) else none) else none))) else none))) else none
set_option maxRecDepth 20000 in
set_option maxHeartbeats 4000000 in
theorem t_X6_takePart (l : Launch) {v0 : Nat} {v1 : Nat} {v2 : Int32} {v3 : Int32} {v4 : Int32} {M : XM} {q : XM} (H : f_X6_takePart v0 v1 v2 v3 v4 M = some q) : AW l m_X6_takePart 2 0 0 (x_Rv q) 0 0 0 [some (.ref v0), some (.ref v1), some (.int v2), some (.int v3), some (.int v4)] [] M := by
  unfold f_X6_takePart at H
  refine x_aload_n 0 1 dX6_takePart_0 rfl rfl ?_
  refine x_iload_n 1 2 dX6_takePart_1 rfl rfl ?_
  refine x_iload 2 4 dX6_takePart_2 rfl ?_
  obtain ⟨h1, H⟩ := x_ckp H
  obtain ⟨r3, M2, e4, H⟩ := x_bd_of H
  refine x_callV 4 43 6 [(.int v2), (.int v4)] [] dX6_takePart_4 (ct_X6_hasPart l e4) lk_462 lk_455 lk_456 (by decide) h1 lk_93 lk_457 ⟨cn_X6_hasPart, (by decide), by decide⟩ rfl (Nat.le_of_ble_eq_true rfl) (Nat.le_of_ble_eq_true rfl) (Nat.le_of_ble_eq_true rfl) (x_ri ?_)
  refine x_if_eq 7 35 dX6_takePart_7 (by decide) (fun c5 => ?_) (fun c5 => ?_)
  · replace H := x_ifp c5 H
    cases H
    exact x_vret 35 dX6_takePart_35 rfl (Nat.le_of_ble_eq_true rfl) (Nat.le_of_ble_eq_true rfl) ⟨rfl, rfl⟩
  · replace H := x_ifn c5 H
    refine x_aload_n 10 0 dX6_takePart_10 rfl rfl ?_
    refine x_iload_n 11 3 dX6_takePart_11 rfl rfl ?_
    refine x_iload 12 4 dX6_takePart_12 rfl ?_
    obtain ⟨h6, H⟩ := x_ckp H
    obtain ⟨r8, M7, e9, H⟩ := x_bd_of H
    refine x_callV 14 43 6 [(.int v3), (.int v4)] [] dX6_takePart_14 (ct_X6_hasPart l e9) lk_462 lk_455 lk_456 (by decide) h6 lk_93 lk_457 ⟨cn_X6_hasPart, (by decide), by decide⟩ rfl (Nat.le_of_ble_eq_true rfl) (Nat.le_of_ble_eq_true rfl) (Nat.le_of_ble_eq_true rfl) (x_ri ?_)
    refine x_if_eq 17 35 dX6_takePart_17 (by decide) (fun c10 => ?_) (fun c10 => ?_)
    · replace H := x_ifp c10 H
      cases H
      exact x_vret 35 dX6_takePart_35 rfl (Nat.le_of_ble_eq_true rfl) (Nat.le_of_ble_eq_true rfl) ⟨rfl, rfl⟩
    · replace H := x_ifn c10 H
      refine x_aload_n 20 1 dX6_takePart_20 rfl rfl ?_
      obtain ⟨h11, H⟩ := x_ckp H
      refine x_getf 21 18 6 3 (.ref (x_r M7 v1 3)) dX6_takePart_21 lk_346 (by decide) (by decide) rfl (fun _ => rfl) h11 ?_
      refine x_iload_n 24 2 dX6_takePart_24 rfl rfl ?_
      refine x_aload_n 25 0 dX6_takePart_25 rfl rfl ?_
      obtain ⟨h12, H⟩ := x_ckp H
      refine x_getf 26 18 6 3 (.ref (x_r M7 v0 3)) dX6_takePart_26 lk_346 (by decide) (by decide) rfl (fun _ => rfl) h12 ?_
      refine x_iload_n 29 3 dX6_takePart_29 rfl rfl ?_
      refine x_iload 30 4 dX6_takePart_30 rfl ?_
      obtain ⟨h13, H⟩ := x_ckp H
      obtain ⟨M14, w15, H⟩ := x_lt_of H
      have h16 : x_tag M14 v1 = 6 + 10 := by rw [w15]; exact h11
      have h17 : x_tag M14 v0 = 6 + 10 := by rw [w15]; exact h12
      refine x_acopy' 32 47 dX6_takePart_32 lk_463 lk_465 lk_464 lk_96 rfl (Nat.le_of_ble_eq_true rfl) (by decide) h13 w15 ?_
      cases H
      exact x_vret 35 dX6_takePart_35 rfl (Nat.le_of_ble_eq_true rfl) (Nat.le_of_ble_eq_true rfl) ⟨rfl, rfl⟩

theorem ct_X6_takePart (l : Launch) {v0 : Nat} {v1 : Nat} {v2 : Int32} {v3 : Int32} {v4 : Int32} {M : XM} {q : XM} (H : f_X6_takePart v0 v1 v2 v3 v4 M = some q) : Ct l m_X6_takePart 2 0 0 [(.ref v0), (.ref v1), (.int v2), (.int v3), (.int v4)] M (x_Rv q) := x_met l m_X6_takePart 2 0 0 [(.ref v0), (.ref v1), (.int v2), (.int v3), (.int v4)] M (x_Rv q) _ rfl rfl (Nat.le_of_ble_eq_true rfl) (t_X6_takePart l H)
theorem lk_236 : Cond.methodLink RX7 3 Lib.objectInit ∈ x_TB := x_tb (k := 236) (by decide +kernel) rfl
theorem lk_237 : Cond.classLink RX7 9 RX2 ∈ x_TB := x_tb (k := 237) (by decide +kernel) rfl
theorem lk_239 : Cond.fieldLink RX7 12 RX7 "who" "LWhatDidYouSay$Counter;" ∈ x_TB := x_tb (k := 239) (by decide +kernel) rfl
theorem lk_241 : Cond.fieldLink RX7 18 RX7 "breaks" "[I" ∈ x_TB := x_tb (k := 241) (by decide +kernel) rfl
abbrev m_X7_init : XU := (yX7_init, cX7_init, 1, none)
theorem cn_X7_init : m_X7_init.1.cls ≠ "java/lang/invoke/MethodHandle" ∧ m_X7_init.1.cls ≠ "java/lang/invoke/VarHandle" ∧ (parseMethodDescriptor m_X7_init.1.desc).map (fun q => q.parameters.length) = some 0 := by decide +kernel
def f_X7_init (v0 : Nat) (M : XM) : Option XM :=
  if x_tag M v0 = 7 + 10 then (x_al M (2 + 10) 0 (fun a3 M2 => x_bv (f_X2_init a3 M2) (fun M7 => if x_tag M7 v0 = 7 + 10 then (x_lt (x_wr M7 v0 0 a3) (fun M11 => x_al M11 1 40 (fun a15 M14 => if x_tag M14 v0 = 7 + 10 then (x_lt (x_wr M14 v0 1 a15) (fun M20 => some M20)) else none))) else none))) else none
set_option maxRecDepth 20000 in
set_option maxHeartbeats 4000000 in
theorem t_X7_init (l : Launch) {v0 : Nat} {M : XM} {q : XM} (H : f_X7_init v0 M = some q) : AW l m_X7_init 2 2 45 (x_Rv q) 0 0 0 [some (.ref v0)] [] M := by
  unfold f_X7_init at H
  refine x_aload_n 0 0 dX7_init_0 rfl rfl ?_
  obtain ⟨h1, H⟩ := x_ckp H
  refine x_objInit 1 3 dX7_init_1 lk_236 lk_108 lk_109 h1 rfl (Nat.le_of_ble_eq_true rfl) (by decide) ?_
  refine x_aload_n 4 0 dX7_init_4 rfl rfl ?_
  obtain ⟨a3, M2, w4, w5, H⟩ := x_al_of H
  refine x_newc' 5 9 2 dX7_init_5 (by decide) lk_237 lk_118 lk_87 (Nat.le_of_ble_eq_true rfl) (Nat.le_of_ble_eq_true rfl) w4 w5 ?_
  have h6 : x_tag M2 a3 = 2 + 10 := x_al_tag w4 w5
  change AW _ _ _ _ _ _ 1 5 _ _ _ _
  refine x_dup 8 dX7_init_8 rfl ?_
  obtain ⟨M7, e9, H⟩ := x_bv_of H
  refine x_callIN 9 11 [] [(.ref a3), (.ref v0)] dX7_init_9 (ct_X2_init l e9) (List.mem_of_getElem? (i := 2) rfl) rfl rfl lk_120 h6 lk_87 lk_121 ⟨cn_X2_init, (by decide), by decide⟩ rfl (Nat.le_of_ble_eq_true rfl) (Nat.le_of_ble_eq_true rfl) (Nat.le_of_ble_eq_true rfl) (x_rv ?_)
  obtain ⟨h10, H⟩ := x_ckp H
  obtain ⟨M11, w12, H⟩ := x_lt_of H
  have h13 : x_tag M11 v0 = 7 + 10 := by rw [w12]; exact h10
  refine x_putR' 12 12 7 0 dX7_init_12 lk_239 (by decide) (by decide) rfl (Or.inl ⟨_, rfl⟩) (Or.inr ⟨rfl, rfl⟩) h10 w12 ?_
  refine x_aload_n 15 0 dX7_init_15 rfl rfl ?_
  refine x_bipush 16 (40 : Int32) dX7_init_16 (by decide) ?_
  obtain ⟨a15, M14, w16, w17, H⟩ := x_al_of H
  refine x_newI' 18 40 dX7_init_18 lk_153 (by decide) (by decide) (by decide) (Nat.le_of_ble_eq_true rfl) (Nat.le_of_ble_eq_true rfl) w16 w17 ?_
  have h18 : x_tag M14 a15 = 1 := x_al_tag w16 w17
  change AW _ _ _ _ _ _ 2 45 _ _ _ _
  obtain ⟨h19, H⟩ := x_ckp H
  obtain ⟨M20, w21, H⟩ := x_lt_of H
  have h22 : x_tag M20 a15 = 1 := by rw [w21]; exact h18
  have h23 : x_tag M20 v0 = 7 + 10 := by rw [w21]; exact h19
  refine x_putR' 20 18 7 1 dX7_init_20 lk_241 (by decide) (by decide) rfl (Or.inr ⟨_, rfl⟩) (Or.inr ⟨rfl, rfl⟩) h19 w21 ?_
  cases H
  exact x_vret 23 dX7_init_23 rfl (Nat.le_of_ble_eq_true rfl) (Nat.le_of_ble_eq_true rfl) ⟨rfl, rfl⟩

theorem ct_X7_init (l : Launch) {v0 : Nat} {M : XM} {q : XM} (H : f_X7_init v0 M = some q) : Ct l m_X7_init 2 2 45 [(.ref v0)] M (x_Rv q) := x_met l m_X7_init 2 2 45 [(.ref v0)] M (x_Rv q) _ rfl rfl (Nat.le_of_ble_eq_true rfl) (t_X7_init l H)
theorem lk_156 : Cond.fieldLink RX7 22 RX4 "counters" "[LWhatDidYouSay$Counter;" ∈ x_TB := x_tb (k := 156) (by decide +kernel) rfl
theorem lk_747 : Cond.methodLink RX7 28 yX2_becomeLike ∈ x_TB := x_tb (k := 747) (by decide +kernel) rfl
theorem lk_163 : Cond.fieldLink RX7 32 RX4 "n" "I" ∈ x_TB := x_tb (k := 163) (by decide +kernel) rfl
theorem lk_245 : Cond.fieldLink RX7 36 RX7 "n" "I" ∈ x_TB := x_tb (k := 245) (by decide +kernel) rfl
theorem lk_169 : Cond.fieldLink RX7 37 RX4 "apart" "I" ∈ x_TB := x_tb (k := 169) (by decide +kernel) rfl
theorem lk_246 : Cond.fieldLink RX7 40 RX7 "apart" "I" ∈ x_TB := x_tb (k := 246) (by decide +kernel) rfl
theorem lk_748 : Cond.methodLink RX7 41 Lib.Math.min.name ∈ x_TB := x_tb (k := 748) (by decide +kernel) rfl
theorem lk_242 : Cond.fieldLink RX7 47 RX7 "told" "I" ∈ x_TB := x_tb (k := 242) (by decide +kernel) rfl
theorem lk_243 : Cond.fieldLink RX7 56 RX7 "next" "I" ∈ x_TB := x_tb (k := 243) (by decide +kernel) rfl
theorem lk_244 : Cond.fieldLink RX7 59 RX7 "second" "I" ∈ x_TB := x_tb (k := 244) (by decide +kernel) rfl
theorem lk_749 : Cond.methodLink RX7 50 yX6_intAt ∈ x_TB := x_tb (k := 749) (by decide +kernel) rfl
abbrev m_X7_begin : XU := (yX7_begin, cX7_begin, 6, none)
theorem cn_X7_begin : m_X7_begin.1.cls ≠ "java/lang/invoke/MethodHandle" ∧ m_X7_begin.1.cls ≠ "java/lang/invoke/VarHandle" ∧ (parseMethodDescriptor m_X7_begin.1.desc).map (fun q => q.parameters.length) = some 4 := by decide +kernel
def bd_X7_begin_46 (κ46 : Nat → Nat → Int32 → XM → Option XM) (v0 : Nat) (v3 : Nat) (v5 : Int32) (M : XM) : Option XM :=
  if x_tag M v0 = 7 + 10 then (if (x_i M v0 2) ≤ v5 then (x_lt (x_wi M v0 3 (0 : Int32)) (fun M26 => x_lt (x_wi M26 v0 4 (0 : Int32)) (fun M29 => some M29))) else (if x_tag M v3 = 6 + 10 then (x_bd (f_X6_intAt v3 v5 M) (fun r34 M33 => if x_at M33 (x_r M v0 1) 1 v5 = true then (x_lt (x_wi M33 (x_r M v0 1) v5.toNatClampNeg r34) (fun M37 => κ46 v0 v3 (v5 + (1 : Int32)) M37)) else none)) else none)) else none
set_option maxRecDepth 20000 in
set_option maxHeartbeats 4000000 in
theorem tb_X7_begin_46 (l : Launch) {κ46 : Nat → Nat → Int32 → XM → Option XM} {v0 : Nat} {v3 : Nat} {v5 : Int32} {M : XM} {q : XM} (hκ46 : ∀ (v0 : Nat) (v3 : Nat) (v5 : Int32) (M : XM), κ46 v0 v3 v5 M = some q → AW l m_X7_begin 4 0 0 (x_Rv q) 0 0 46 [some (.ref v0), none, none, some (.ref v3), none, some (.int v5)] [] M) (H : bd_X7_begin_46 κ46 v0 v3 v5 M = some q) : AW l m_X7_begin 4 0 0 (x_Rv q) 0 0 46 [some (.ref v0), none, none, some (.ref v3), none, some (.int v5)] [] M := by
  unfold bd_X7_begin_46 at H
  refine x_iload 46 5 dX7_begin_46 rfl ?_
  refine x_aload_n 48 0 dX7_begin_48 rfl rfl ?_
  obtain ⟨h24, H⟩ := x_ckp H
  refine x_getf 49 47 7 2 (.int (x_i M v0 2)) dX7_begin_49 lk_242 (by decide) (by decide) rfl (fun _ => rfl) h24 ?_
  refine x_icmp_ge 52 74 dX7_begin_52 (by decide) (fun c25 => ?_) (fun c25 => ?_)
  · replace H := x_ifp c25 H
    refine x_aload_n 74 0 dX7_begin_74 rfl rfl ?_
    refine x_iconst 75 (0 : Int32) dX7_begin_75 (by decide) ?_
    obtain ⟨M26, w27, H⟩ := x_lt_of H
    have h28 : x_tag M26 v0 = 7 + 10 := by rw [w27]; exact h24
    refine x_putI' 76 56 7 3 dX7_begin_76 lk_243 (by decide) (by decide) rfl (Or.inl rfl) (Or.inl rfl) h24 w27 ?_
    refine x_aload_n 79 0 dX7_begin_79 rfl rfl ?_
    refine x_iconst 80 (0 : Int32) dX7_begin_80 (by decide) ?_
    obtain ⟨M29, w30, H⟩ := x_lt_of H
    have h31 : x_tag M29 v0 = 7 + 10 := by rw [w30]; exact h28
    refine x_putI' 81 59 7 4 dX7_begin_81 lk_244 (by decide) (by decide) rfl (Or.inl rfl) (Or.inl rfl) h28 w30 ?_
    cases H
    exact x_vret 84 dX7_begin_84 rfl (Nat.le_of_ble_eq_true rfl) (Nat.le_of_ble_eq_true rfl) ⟨rfl, rfl⟩
  · replace H := x_ifn c25 H
    refine x_aload_n 55 0 dX7_begin_55 rfl rfl ?_
    refine x_getf 56 18 7 1 (.ref (x_r M v0 1)) dX7_begin_56 lk_241 (by decide) (by decide) rfl (fun _ => rfl) h24 ?_
    refine x_iload 59 5 dX7_begin_59 rfl ?_
    refine x_aload_n 61 3 dX7_begin_61 rfl rfl ?_
    refine x_iload 62 5 dX7_begin_62 rfl ?_
    obtain ⟨h32, H⟩ := x_ckp H
    obtain ⟨r34, M33, e35, H⟩ := x_bd_of H
    refine x_callV 64 50 6 [(.int v5)] [(.int v5), (.ref (x_r M v0 1))] dX7_begin_64 (ct_X6_intAt l e35) lk_749 lk_582 lk_583 (by decide) h32 lk_93 lk_584 ⟨cn_X6_intAt, (by decide), by decide⟩ rfl (Nat.le_of_ble_eq_true rfl) (Nat.le_of_ble_eq_true rfl) (Nat.le_of_ble_eq_true rfl) (x_ri ?_)
    obtain ⟨h36, H⟩ := x_ckp H
    obtain ⟨M37, w38, H⟩ := x_lt_of H
    have h39 : x_at M37 (x_r M v0 1) 1 v5 = true := by rw [w38]; exact h36
    have h40 : x_tag M37 (x_r M v0 1) = 1 := by rw [w38]; exact (x_at_1 h36)
    refine x_iast' 67 dX7_begin_67 h36 w38 ?_
    refine x_iinc 68 5 (v5 + (1 : Int32)) [some (.ref v0), none, none, some (.ref v3), none, some (.int (v5 + (1 : Int32)))] dX7_begin_68 rfl (congrArg (fun z : Int32 => v5 + z) (show Int32.ofInt (1) = (1 : Int32) by decide)) rfl (Nat.le_of_ble_eq_true rfl) rfl ?_
    refine x_goto 71 46 dX7_begin_71 (by decide) ?_
    exact hκ46 _ _ _ _ H

def lp_X7_begin_46 (n : Nat) : Nat → Nat → Int32 → XM → Option XM := x_rec (fun _ _ _ _ => none) (bd_X7_begin_46) n
theorem t_X7_begin_46 (l : Launch) {q : XM} : ∀ (n : Nat) (v0 : Nat) (v3 : Nat) (v5 : Int32) (M : XM), lp_X7_begin_46 n v0 v3 v5 M = some q → AW l m_X7_begin 4 0 0 (x_Rv q) 0 0 46 [some (.ref v0), none, none, some (.ref v3), none, some (.int v5)] [] M := by
  intro n
  induction n with
  | zero => intro v0 v3 v5 M H; cases H
  | succ n ih => intro v0 v3 v5 M H; exact tb_X7_begin_46 l ih H
def f_X7_begin (v0 : Nat) (v1 : Nat) (v2 : Int32) (v3 : Nat) (v4 : Int32) (M : XM) : Option XM :=
  if x_tag M v0 = 7 + 10 then (if x_tag M v1 = 4 + 10 then (if x_at M (x_r M v1 0) 3 v2 = true then (if x_tag M (x_r M v0 0) = 2 + 10 then (x_bv (f_X2_becomeLike (x_r M v0 0) (x_r M (x_r M v1 0) v2.toNatClampNeg) M) (fun M5 => if x_tag M5 v1 = 4 + 10 then (if x_tag M5 v0 = 7 + 10 then (x_lt (x_wi M5 v0 5 (x_i M5 v1 2)) (fun M10 => x_lt (x_wi M10 v0 6 (x_i M10 v1 3)) (fun M14 => if x_tag M14 (x_r M14 v0 1) = 1 then (x_lt (x_wi M14 v0 2 (if (Int32.ofNat (x_len M14 (x_r M14 v0 1))) < v4 then (Int32.ofNat (x_len M14 (x_r M14 v0 1))) else v4)) (fun M19 => lp_X7_begin_46 x_fuel v0 v3 (0 : Int32) M19)) else none))) else none) else none)) else none) else none) else none) else none
set_option maxRecDepth 20000 in
set_option maxHeartbeats 4000000 in
theorem t_X7_begin (l : Launch) {v0 : Nat} {v1 : Nat} {v2 : Int32} {v3 : Nat} {v4 : Int32} {M : XM} {q : XM} (H : f_X7_begin v0 v1 v2 v3 v4 M = some q) : AW l m_X7_begin 4 0 0 (x_Rv q) 0 0 0 [some (.ref v0), some (.ref v1), some (.int v2), some (.ref v3), some (.int v4), none] [] M := by
  unfold f_X7_begin at H
  refine x_aload_n 0 0 dX7_begin_0 rfl rfl ?_
  obtain ⟨h1, H⟩ := x_ckp H
  refine x_getf 1 12 7 0 (.ref (x_r M v0 0)) dX7_begin_1 lk_239 (by decide) (by decide) rfl (fun _ => rfl) h1 ?_
  refine x_aload_n 4 1 dX7_begin_4 rfl rfl ?_
  obtain ⟨h2, H⟩ := x_ckp H
  refine x_getf 5 22 4 0 (.ref (x_r M v1 0)) dX7_begin_5 lk_156 (by decide) (by decide) rfl (fun _ => rfl) h2 ?_
  refine x_iload_n 8 2 dX7_begin_8 rfl rfl ?_
  obtain ⟨h3, H⟩ := x_ckp H
  refine x_aald3 9 dX7_begin_9 h3 ?_
  obtain ⟨h4, H⟩ := x_ckp H
  obtain ⟨M5, e7, H⟩ := x_bv_of H
  refine x_callV 10 28 2 [(.ref (x_r M (x_r M v1 0) v2.toNatClampNeg))] [] dX7_begin_10 (ct_X2_becomeLike l e7) lk_747 lk_573 lk_574 (by decide) h4 lk_87 lk_575 ⟨cn_X2_becomeLike, (by decide), by decide⟩ rfl (Nat.le_of_ble_eq_true rfl) (Nat.le_of_ble_eq_true rfl) (Nat.le_of_ble_eq_true rfl) (x_rv ?_)
  refine x_aload_n 13 0 dX7_begin_13 rfl rfl ?_
  refine x_aload_n 14 1 dX7_begin_14 rfl rfl ?_
  obtain ⟨h8, H⟩ := x_ckp H
  refine x_getf 15 32 4 2 (.int (x_i M5 v1 2)) dX7_begin_15 lk_163 (by decide) (by decide) rfl (fun _ => rfl) h8 ?_
  obtain ⟨h9, H⟩ := x_ckp H
  obtain ⟨M10, w11, H⟩ := x_lt_of H
  have h12 : x_tag M10 v1 = 4 + 10 := by rw [w11]; exact h8
  have h13 : x_tag M10 v0 = 7 + 10 := by rw [w11]; exact h9
  refine x_putI' 18 36 7 5 dX7_begin_18 lk_245 (by decide) (by decide) rfl (Or.inl rfl) (Or.inl rfl) h9 w11 ?_
  refine x_aload_n 21 0 dX7_begin_21 rfl rfl ?_
  refine x_aload_n 22 1 dX7_begin_22 rfl rfl ?_
  refine x_getf 23 37 4 3 (.int (x_i M10 v1 3)) dX7_begin_23 lk_169 (by decide) (by decide) rfl (fun _ => rfl) h12 ?_
  obtain ⟨M14, w15, H⟩ := x_lt_of H
  have h16 : x_tag M14 v1 = 4 + 10 := by rw [w15]; exact h12
  have h17 : x_tag M14 v0 = 7 + 10 := by rw [w15]; exact h13
  refine x_putI' 26 40 7 6 dX7_begin_26 lk_246 (by decide) (by decide) rfl (Or.inl rfl) (Or.inl rfl) h13 w15 ?_
  refine x_aload_n 29 0 dX7_begin_29 rfl rfl ?_
  refine x_iload 30 4 dX7_begin_30 rfl ?_
  refine x_aload_n 32 0 dX7_begin_32 rfl rfl ?_
  refine x_getf 33 18 7 1 (.ref (x_r M14 v0 1)) dX7_begin_33 lk_241 (by decide) (by decide) rfl (fun _ => rfl) h17 ?_
  obtain ⟨h18, H⟩ := x_ckp H
  refine x_alen 36 1 dX7_begin_36 h18 (by decide) ?_
  refine x_min 37 41 dX7_begin_37 lk_748 lk_558 lk_97 lk_559 rfl (Nat.le_of_ble_eq_true rfl) (by decide) (Nat.le_of_ble_eq_true rfl) (Nat.le_of_ble_eq_true rfl) ?_
  obtain ⟨M19, w20, H⟩ := x_lt_of H
  have h21 : x_tag M19 v1 = 4 + 10 := by rw [w20]; exact h16
  have h22 : x_tag M19 v0 = 7 + 10 := by rw [w20]; exact h17
  have h23 : x_tag M19 (x_r M14 v0 1) = 1 := by rw [w20]; exact h18
  refine x_putI' 40 47 7 2 dX7_begin_40 lk_242 (by decide) (by decide) rfl (Or.inl rfl) (Or.inl rfl) h17 w20 ?_
  refine x_iconst 43 (0 : Int32) dX7_begin_43 (by decide) ?_
  refine x_istore 44 5 [some (.ref v0), some (.ref v1), some (.int v2), some (.ref v3), some (.int v4), some (.int (0 : Int32))] dX7_begin_44 rfl (Nat.le_of_ble_eq_true rfl) rfl ?_
  exact x_wk (le_s (le_n (le_n (le_s (le_n (le_s le_0)))))) (t_X7_begin_46 l _ _ _ _ _ H)

theorem ct_X7_begin (l : Launch) {v0 : Nat} {v1 : Nat} {v2 : Int32} {v3 : Nat} {v4 : Int32} {M : XM} {q : XM} (H : f_X7_begin v0 v1 v2 v3 v4 M = some q) : Ct l m_X7_begin 4 0 0 [(.ref v0), (.ref v1), (.int v2), (.ref v3), (.int v4)] M (x_Rv q) := x_met l m_X7_begin 4 0 0 [(.ref v0), (.ref v1), (.int v2), (.ref v3), (.int v4)] M (x_Rv q) _ rfl rfl (Nat.le_of_ble_eq_true rfl) (t_X7_begin l H)
theorem lk_132 : Cond.fieldLink RX7 62 RX2 "at" "I" ∈ x_TB := x_tb (k := 132) (by decide +kernel) rfl
theorem lk_754 : Cond.methodLink RX7 65 yX2_hear ∈ x_TB := x_tb (k := 754) (by decide +kernel) rfl
abbrev m_X7_step : XU := (yX7_step, cX7_step, 2, none)
theorem cn_X7_step : m_X7_step.1.cls ≠ "java/lang/invoke/MethodHandle" ∧ m_X7_step.1.cls ≠ "java/lang/invoke/VarHandle" ∧ (parseMethodDescriptor m_X7_step.1.desc).map (fun q => q.parameters.length) = some 0 := by decide +kernel
def f_X7_step_57 (v0 : Nat) (v1 : Int32) (M : XM) : Option XM :=
  if x_tag M v0 = 7 + 10 then (if x_tag M (x_r M v0 0) = 2 + 10 then (if (x_i M (x_r M v0 0) 2) < (x_i M v0 5) then (if v1 = 0 then (x_lt (x_wi M (x_r M v0 0) 2 ((x_i M (x_r M v0 0) 2) + (1 : Int32))) (fun M11 => some M11)) else (x_bv (f_X2_hear (x_r M v0 0) (x_i M v0 6) M) (fun M15 => some M15))) else (some M)) else none) else none
set_option maxRecDepth 20000 in
set_option maxHeartbeats 4000000 in
theorem t_X7_step_57 (l : Launch) {v0 : Nat} {v1 : Int32} {M : XM} {q : XM} (H : f_X7_step_57 v0 v1 M = some q) : AW l m_X7_step 3 0 0 (x_Rv q) 0 0 57 [some (.ref v0), some (.int v1)] [] M := by
  unfold f_X7_step_57 at H
  refine x_aload_n 57 0 dX7_step_57 rfl rfl ?_
  obtain ⟨h7, H⟩ := x_ckp H
  refine x_getf 58 12 7 0 (.ref (x_r M v0 0)) dX7_step_58 lk_239 (by decide) (by decide) rfl (fun _ => rfl) h7 ?_
  obtain ⟨h8, H⟩ := x_ckp H
  refine x_getf 61 62 2 2 (.int (x_i M (x_r M v0 0) 2)) dX7_step_61 lk_132 (by decide) (by decide) rfl (fun _ => rfl) h8 ?_
  refine x_aload_n 64 0 dX7_step_64 rfl rfl ?_
  refine x_getf 65 36 7 5 (.int (x_i M v0 5)) dX7_step_65 lk_245 (by decide) (by decide) rfl (fun _ => rfl) h7 ?_
  refine x_icmp_lt 68 72 dX7_step_68 (by decide) (fun c9 => ?_) (fun c9 => ?_)
  · replace H := x_ifp c9 H
    refine x_iload_n 72 1 dX7_step_72 rfl rfl ?_
    refine x_if_eq 73 90 dX7_step_73 (by decide) (fun c10 => ?_) (fun c10 => ?_)
    · replace H := x_ifp c10 H
      refine x_aload_n 90 0 dX7_step_90 rfl rfl ?_
      refine x_getf 91 12 7 0 (.ref (x_r M v0 0)) dX7_step_91 lk_239 (by decide) (by decide) rfl (fun _ => rfl) h7 ?_
      refine x_dup 94 dX7_step_94 rfl ?_
      refine x_getf 95 62 2 2 (.int (x_i M (x_r M v0 0) 2)) dX7_step_95 lk_132 (by decide) (by decide) rfl (fun _ => rfl) h8 ?_
      refine x_iconst 98 (1 : Int32) dX7_step_98 (by decide) ?_
      refine x_iadd 99 dX7_step_99 ?_
      obtain ⟨M11, w12, H⟩ := x_lt_of H
      have h13 : x_tag M11 v0 = 7 + 10 := by rw [w12]; exact h7
      have h14 : x_tag M11 (x_r M v0 0) = 2 + 10 := by rw [w12]; exact h8
      refine x_putI' 100 62 2 2 dX7_step_100 lk_132 (by decide) (by decide) rfl (Or.inl rfl) (Or.inl rfl) h8 w12 ?_
      cases H
      exact x_vret 103 dX7_step_103 rfl (Nat.le_of_ble_eq_true rfl) (Nat.le_of_ble_eq_true rfl) ⟨rfl, rfl⟩
    · replace H := x_ifn c10 H
      refine x_aload_n 76 0 dX7_step_76 rfl rfl ?_
      refine x_getf 77 12 7 0 (.ref (x_r M v0 0)) dX7_step_77 lk_239 (by decide) (by decide) rfl (fun _ => rfl) h7 ?_
      refine x_aload_n 80 0 dX7_step_80 rfl rfl ?_
      refine x_getf 81 40 7 6 (.int (x_i M v0 6)) dX7_step_81 lk_246 (by decide) (by decide) rfl (fun _ => rfl) h7 ?_
      obtain ⟨M15, e17, H⟩ := x_bv_of H
      refine x_callV 84 65 2 [(.int (x_i M v0 6))] [] dX7_step_84 (ct_X2_hear l e17) lk_754 lk_704 lk_705 (by decide) h8 lk_87 lk_706 ⟨cn_X2_hear, (by decide), by decide⟩ rfl (Nat.le_of_ble_eq_true rfl) (Nat.le_of_ble_eq_true rfl) (Nat.le_of_ble_eq_true rfl) (x_rv ?_)
      refine x_goto 87 103 dX7_step_87 (by decide) ?_
      cases H
      exact x_vret 103 dX7_step_103 rfl (Nat.le_of_ble_eq_true rfl) (Nat.le_of_ble_eq_true rfl) ⟨rfl, rfl⟩
  · replace H := x_ifn c9 H
    cases H
    exact x_vret 71 dX7_step_71 rfl (Nat.le_of_ble_eq_true rfl) (Nat.le_of_ble_eq_true rfl) ⟨rfl, rfl⟩

def f_X7_step_42 (v0 : Nat) (s0 : Int32) (M : XM) : Option XM :=
  if s0 = 0 then (f_X7_step_57 v0 s0 M) else (if x_tag M v0 = 7 + 10 then (x_lt (x_wi M v0 3 ((x_i M v0 3) + (1 : Int32))) (fun M19 => f_X7_step_57 v0 s0 M19)) else none)
set_option maxRecDepth 20000 in
set_option maxHeartbeats 4000000 in
theorem t_X7_step_42 (l : Launch) {v0 : Nat} {s0 : Int32} {M : XM} {q : XM} (H : f_X7_step_42 v0 s0 M = some q) : AW l m_X7_step 3 0 0 (x_Rv q) 0 0 42 [some (.ref v0), none] [(.int s0)] M := by
  unfold f_X7_step_42 at H
  refine x_istore_n 42 1 [some (.ref v0), some (.int s0)] dX7_step_42 rfl rfl (Nat.le_of_ble_eq_true rfl) rfl ?_
  refine x_iload_n 43 1 dX7_step_43 rfl rfl ?_
  refine x_if_eq 44 57 dX7_step_44 (by decide) (fun c6 => ?_) (fun c6 => ?_)
  · replace H := x_ifp c6 H
    exact t_X7_step_57 l H
  · replace H := x_ifn c6 H
    refine x_aload_n 47 0 dX7_step_47 rfl rfl ?_
    refine x_dup 48 dX7_step_48 rfl ?_
    obtain ⟨h18, H⟩ := x_ckp H
    refine x_getf 49 56 7 3 (.int (x_i M v0 3)) dX7_step_49 lk_243 (by decide) (by decide) rfl (fun _ => rfl) h18 ?_
    refine x_iconst 52 (1 : Int32) dX7_step_52 (by decide) ?_
    refine x_iadd 53 dX7_step_53 ?_
    obtain ⟨M19, w20, H⟩ := x_lt_of H
    have h21 : x_tag M19 v0 = 7 + 10 := by rw [w20]; exact h18
    refine x_putI' 54 56 7 3 dX7_step_54 lk_243 (by decide) (by decide) rfl (Or.inl rfl) (Or.inl rfl) h18 w20 ?_
    exact t_X7_step_57 l H

def f_X7_step_41 (v0 : Nat) (M : XM) : Option XM :=
  f_X7_step_42 v0 (0 : Int32) M
set_option maxRecDepth 20000 in
set_option maxHeartbeats 4000000 in
theorem t_X7_step_41 (l : Launch) {v0 : Nat} {M : XM} {q : XM} (H : f_X7_step_41 v0 M = some q) : AW l m_X7_step 3 0 0 (x_Rv q) 0 0 41 [some (.ref v0), none] [] M := by
  unfold f_X7_step_41 at H
  refine x_iconst 41 (0 : Int32) dX7_step_41 (by decide) ?_
  exact t_X7_step_42 l H

def f_X7_step (v0 : Nat) (M : XM) : Option XM :=
  if x_tag M v0 = 7 + 10 then (x_lt (x_wi M v0 4 ((x_i M v0 4) + (1 : Int32))) (fun M2 => if (x_i M2 v0 2) ≤ (x_i M2 v0 3) then (f_X7_step_41 v0 M2) else (if x_at M2 (x_r M2 v0 1) 1 (x_i M2 v0 3) = true then (if (x_i M2 (x_r M2 v0 1) (x_i M2 v0 3).toNatClampNeg) = (x_i M2 v0 4) then (f_X7_step_42 v0 (1 : Int32) M2) else (f_X7_step_41 v0 M2)) else none))) else none
set_option maxRecDepth 20000 in
set_option maxHeartbeats 4000000 in
theorem t_X7_step (l : Launch) {v0 : Nat} {M : XM} {q : XM} (H : f_X7_step v0 M = some q) : AW l m_X7_step 3 0 0 (x_Rv q) 0 0 0 [some (.ref v0), none] [] M := by
  unfold f_X7_step at H
  refine x_aload_n 0 0 dX7_step_0 rfl rfl ?_
  refine x_dup 1 dX7_step_1 rfl ?_
  obtain ⟨h1, H⟩ := x_ckp H
  refine x_getf 2 59 7 4 (.int (x_i M v0 4)) dX7_step_2 lk_244 (by decide) (by decide) rfl (fun _ => rfl) h1 ?_
  refine x_iconst 5 (1 : Int32) dX7_step_5 (by decide) ?_
  refine x_iadd 6 dX7_step_6 ?_
  obtain ⟨M2, w3, H⟩ := x_lt_of H
  have h4 : x_tag M2 v0 = 7 + 10 := by rw [w3]; exact h1
  refine x_putI' 7 59 7 4 dX7_step_7 lk_244 (by decide) (by decide) rfl (Or.inl rfl) (Or.inl rfl) h1 w3 ?_
  refine x_aload_n 10 0 dX7_step_10 rfl rfl ?_
  refine x_getf 11 56 7 3 (.int (x_i M2 v0 3)) dX7_step_11 lk_243 (by decide) (by decide) rfl (fun _ => rfl) h4 ?_
  refine x_aload_n 14 0 dX7_step_14 rfl rfl ?_
  refine x_getf 15 47 7 2 (.int (x_i M2 v0 2)) dX7_step_15 lk_242 (by decide) (by decide) rfl (fun _ => rfl) h4 ?_
  refine x_icmp_ge 18 41 dX7_step_18 (by decide) (fun c5 => ?_) (fun c5 => ?_)
  · replace H := x_ifp c5 H
    exact t_X7_step_41 l H
  · replace H := x_ifn c5 H
    refine x_aload_n 21 0 dX7_step_21 rfl rfl ?_
    refine x_getf 22 18 7 1 (.ref (x_r M2 v0 1)) dX7_step_22 lk_241 (by decide) (by decide) rfl (fun _ => rfl) h4 ?_
    refine x_aload_n 25 0 dX7_step_25 rfl rfl ?_
    refine x_getf 26 56 7 3 (.int (x_i M2 v0 3)) dX7_step_26 lk_243 (by decide) (by decide) rfl (fun _ => rfl) h4 ?_
    obtain ⟨h22, H⟩ := x_ckp H
    refine x_iald 29 dX7_step_29 h22 ?_
    refine x_aload_n 30 0 dX7_step_30 rfl rfl ?_
    refine x_getf 31 59 7 4 (.int (x_i M2 v0 4)) dX7_step_31 lk_244 (by decide) (by decide) rfl (fun _ => rfl) h4 ?_
    refine x_icmp_ne 34 41 dX7_step_34 (by decide) (fun c23 => ?_) (fun c23 => ?_)
    · replace H := x_ifn c23 H
      exact t_X7_step_41 l H
    · replace H := x_ifp c23 H
      refine x_iconst 37 (1 : Int32) dX7_step_37 (by decide) ?_
      refine x_goto 38 42 dX7_step_38 (by decide) ?_
      exact t_X7_step_42 l H

theorem ct_X7_step (l : Launch) {v0 : Nat} {M : XM} {q : XM} (H : f_X7_step v0 M = some q) : Ct l m_X7_step 3 0 0 [(.ref v0)] M (x_Rv q) := x_met l m_X7_step 3 0 0 [(.ref v0)] M (x_Rv q) _ rfl rfl (Nat.le_of_ble_eq_true rfl) (t_X7_step l H)
theorem lk_89 : Cond.initialized RX7 ∈ x_TB := x_tb (k := 89) (by decide +kernel) rfl
theorem lk_753 : Cond.code yX7_step cX7_step 2 none ∈ x_TB := x_tb (k := 753) (by decide +kernel) rfl
theorem lk_767 : Cond.methodLink RX7 69 yX7_step ∈ x_TB := x_tb (k := 767) (by decide +kernel) rfl
theorem lk_752 : Cond.selects RX7 yX7_step yX7_step ∈ x_TB := x_tb (k := 752) (by decide +kernel) rfl
theorem lk_751 : Cond.instanceMethod yX7_step ∈ x_TB := x_tb (k := 751) (by decide +kernel) rfl
abbrev m_X7_untilThrough : XU := (yX7_untilThrough, cX7_untilThrough, 2, (some .int))
theorem cn_X7_untilThrough : m_X7_untilThrough.1.cls ≠ "java/lang/invoke/MethodHandle" ∧ m_X7_untilThrough.1.cls ≠ "java/lang/invoke/VarHandle" ∧ (parseMethodDescriptor m_X7_untilThrough.1.desc).map (fun q => q.parameters.length) = some 0 := by decide +kernel
def bd_X7_untilThrough_2 (κ2 : Nat → Int32 → XM → Option (Int32 × XM)) (v0 : Nat) (v1 : Int32) (M : XM) : Option (Int32 × XM) :=
  if (400 : Int32) < v1 then (some ((-1 : Int32), M)) else (if x_tag M v0 = 7 + 10 then (if x_tag M (x_r M v0 0) = 2 + 10 then (if (x_i M (x_r M v0 0) 2) < (x_i M v0 5) then (x_bv (f_X7_step v0 M) (fun M5 => κ2 v0 (v1 + (1 : Int32)) M5)) else (some (v1, M))) else none) else none)
set_option maxRecDepth 20000 in
set_option maxHeartbeats 4000000 in
theorem tb_X7_untilThrough_2 (l : Launch) {κ2 : Nat → Int32 → XM → Option (Int32 × XM)} {v0 : Nat} {v1 : Int32} {M : XM} {q : Int32 × XM} (hκ2 : ∀ (v0 : Nat) (v1 : Int32) (M : XM), κ2 v0 v1 M = some q → AW l m_X7_untilThrough 4 0 0 (x_Ri q) 0 0 2 [some (.ref v0), some (.int v1)] [] M) (H : bd_X7_untilThrough_2 κ2 v0 v1 M = some q) : AW l m_X7_untilThrough 4 0 0 (x_Ri q) 0 0 2 [some (.ref v0), some (.int v1)] [] M := by
  unfold bd_X7_untilThrough_2 at H
  refine x_iload_n 2 1 dX7_untilThrough_2 rfl rfl ?_
  refine x_sipush 3 (400 : Int32) dX7_untilThrough_3 (by decide) ?_
  refine x_icmp_gt 6 35 dX7_untilThrough_6 (by decide) (fun c1 => ?_) (fun c1 => ?_)
  · replace H := x_ifp c1 H
    refine x_iconst 35 (-1 : Int32) dX7_untilThrough_35 (by decide) ?_
    cases H
    exact x_iret 36 dX7_untilThrough_36 .int rfl rfl (Nat.le_of_ble_eq_true rfl) (Nat.le_of_ble_eq_true rfl) ⟨rfl, rfl⟩
  · replace H := x_ifn c1 H
    refine x_aload_n 9 0 dX7_untilThrough_9 rfl rfl ?_
    obtain ⟨h2, H⟩ := x_ckp H
    refine x_getf 10 12 7 0 (.ref (x_r M v0 0)) dX7_untilThrough_10 lk_239 (by decide) (by decide) rfl (fun _ => rfl) h2 ?_
    obtain ⟨h3, H⟩ := x_ckp H
    refine x_getf 13 62 2 2 (.int (x_i M (x_r M v0 0) 2)) dX7_untilThrough_13 lk_132 (by decide) (by decide) rfl (fun _ => rfl) h3 ?_
    refine x_aload_n 16 0 dX7_untilThrough_16 rfl rfl ?_
    refine x_getf 17 36 7 5 (.int (x_i M v0 5)) dX7_untilThrough_17 lk_245 (by decide) (by decide) rfl (fun _ => rfl) h2 ?_
    refine x_icmp_lt 20 25 dX7_untilThrough_20 (by decide) (fun c4 => ?_) (fun c4 => ?_)
    · replace H := x_ifp c4 H
      refine x_aload_n 25 0 dX7_untilThrough_25 rfl rfl ?_
      obtain ⟨M5, e7, H⟩ := x_bv_of H
      refine x_callV 26 69 7 [] [] dX7_untilThrough_26 (ct_X7_step l e7) lk_767 lk_751 lk_752 (by decide) h2 lk_89 lk_753 ⟨cn_X7_step, (by decide), by decide⟩ rfl (Nat.le_of_ble_eq_true rfl) (Nat.le_of_ble_eq_true rfl) (Nat.le_of_ble_eq_true rfl) (x_rv ?_)
      refine x_iinc 29 1 (v1 + (1 : Int32)) [some (.ref v0), some (.int (v1 + (1 : Int32)))] dX7_untilThrough_29 rfl (congrArg (fun z : Int32 => v1 + z) (show Int32.ofInt (1) = (1 : Int32) by decide)) rfl (Nat.le_of_ble_eq_true rfl) rfl ?_
      refine x_goto 32 2 dX7_untilThrough_32 (by decide) ?_
      exact hκ2 _ _ _ H
    · replace H := x_ifn c4 H
      refine x_iload_n 23 1 dX7_untilThrough_23 rfl rfl ?_
      cases H
      exact x_iret 24 dX7_untilThrough_24 .int rfl rfl (Nat.le_of_ble_eq_true rfl) (Nat.le_of_ble_eq_true rfl) ⟨rfl, rfl⟩

def lp_X7_untilThrough_2 (n : Nat) : Nat → Int32 → XM → Option (Int32 × XM) := x_rec (fun _ _ _ => none) (bd_X7_untilThrough_2) n
theorem t_X7_untilThrough_2 (l : Launch) {q : Int32 × XM} : ∀ (n : Nat) (v0 : Nat) (v1 : Int32) (M : XM), lp_X7_untilThrough_2 n v0 v1 M = some q → AW l m_X7_untilThrough 4 0 0 (x_Ri q) 0 0 2 [some (.ref v0), some (.int v1)] [] M := by
  intro n
  induction n with
  | zero => intro v0 v1 M H; cases H
  | succ n ih => intro v0 v1 M H; exact tb_X7_untilThrough_2 l ih H
def f_X7_untilThrough (v0 : Nat) (M : XM) : Option (Int32 × XM) :=
  lp_X7_untilThrough_2 x_fuel v0 (0 : Int32) M
set_option maxRecDepth 20000 in
set_option maxHeartbeats 4000000 in
theorem t_X7_untilThrough (l : Launch) {v0 : Nat} {M : XM} {q : Int32 × XM} (H : f_X7_untilThrough v0 M = some q) : AW l m_X7_untilThrough 4 0 0 (x_Ri q) 0 0 0 [some (.ref v0), none] [] M := by
  unfold f_X7_untilThrough at H
  refine x_iconst 0 (0 : Int32) dX7_untilThrough_0 (by decide) ?_
  refine x_istore_n 1 1 [some (.ref v0), some (.int (0 : Int32))] dX7_untilThrough_1 rfl rfl (Nat.le_of_ble_eq_true rfl) rfl ?_
  exact t_X7_untilThrough_2 l _ _ _ _ H

theorem ct_X7_untilThrough (l : Launch) {v0 : Nat} {M : XM} {q : Int32 × XM} (H : f_X7_untilThrough v0 M = some q) : Ct l m_X7_untilThrough 4 0 0 [(.ref v0)] M (x_Ri q) := x_met l m_X7_untilThrough 4 0 0 [(.ref v0)] M (x_Ri q) _ rfl rfl (Nat.le_of_ble_eq_true rfl) (t_X7_untilThrough l H)
