theorem lk_877 : Cond.code yX8_firstWrong cX8_firstWrong 6 (some .int) ∈ x_TB := x_tb (k := 877) (by decide +kernel) rfl
theorem lk_874 : Cond.methodLink RX8 270 yX8_firstWrong ∈ x_TB := x_tb (k := 874) (by decide +kernel) rfl
theorem lk_27 : Cond.selects RX8 yX8_firstWrong yX8_firstWrong ∈ x_TB := x_tb (k := 27) (by decide +kernel) rfl
theorem lk_876 : Cond.instanceMethod yX8_firstWrong ∈ x_TB := x_tb (k := 876) (by decide +kernel) rfl
abbrev m_X8_judge : XU := (yX8_judge, cX8_judge, 5, (some .int))
theorem cn_X8_judge : m_X8_judge.1.cls ≠ "java/lang/invoke/MethodHandle" ∧ m_X8_judge.1.cls ≠ "java/lang/invoke/VarHandle" ∧ (parseMethodDescriptor m_X8_judge.1.desc).map (fun q => q.parameters.length) = some 3 := by decide +kernel
def f_X8_judge_c17 (s0 : Int32) (M : XM) : Option (Int32 × XM) :=
  some ((s0 - (10 : Int32)), M)
set_option maxRecDepth 20000 in
set_option maxHeartbeats 4000000 in
theorem t_X8_judge_c17 (l : Launch) {s0 : Int32} {M : XM} {q : Int32 × XM} (H : f_X8_judge_c17 s0 M = some q) : AW l m_X8_judge 6 0 0 (x_Ri q) 0 0 20 [none, none, none, none, none] [(.int s0)] M := by
  unfold f_X8_judge_c17 at H
  refine x_bipush 20 (10 : Int32) dX8_judge_20 (by decide) ?_
  refine x_isub 22 dX8_judge_22 ?_
  cases H
  exact x_iret 23 dX8_judge_23 .int rfl rfl (Nat.le_of_ble_eq_true rfl) (Nat.le_of_ble_eq_true rfl) ⟨rfl, rfl⟩

def f_X8_judge_c4 (v0 : Nat) (v1 : Int32) (v2 : Int32) (v3 : Int32) (s0 : Int32) (M : XM) : Option (Int32 × XM) :=
  if s0 = 0 then (if x_tag M v0 = 8 + 10 then (x_bd (f_X8_firstWrong v0 v1 v2 v3 M) (fun r8 M7 => some (r8, M7))) else none) else (if x_tag M v0 = 8 + 10 then (x_bd (f_X8_refuse v0 s0 M) f_X8_judge_c17) else none)
set_option maxRecDepth 20000 in
set_option maxHeartbeats 4000000 in
theorem t_X8_judge_c4 (l : Launch) {v0 : Nat} {v1 : Int32} {v2 : Int32} {v3 : Int32} {s0 : Int32} {M : XM} {q : Int32 × XM} (H : f_X8_judge_c4 v0 v1 v2 v3 s0 M = some q) : AW l m_X8_judge 6 0 0 (x_Ri q) 0 0 7 [some (.ref v0), some (.int v1), some (.int v2), some (.int v3), none] [(.int s0)] M := by
  unfold f_X8_judge_c4 at H
  refine x_istore 7 4 [some (.ref v0), some (.int v1), some (.int v2), some (.int v3), some (.int s0)] dX8_judge_7 rfl (Nat.le_of_ble_eq_true rfl) rfl ?_
  refine x_iload 9 4 dX8_judge_9 rfl ?_
  refine x_if_eq 11 24 dX8_judge_11 (by decide) (fun c5 => ?_) (fun c5 => ?_)
  · replace H := x_ifp c5 H
    refine x_aload_n 24 0 dX8_judge_24 rfl rfl ?_
    refine x_iload_n 25 1 dX8_judge_25 rfl rfl ?_
    refine x_iload_n 26 2 dX8_judge_26 rfl rfl ?_
    refine x_iload_n 27 3 dX8_judge_27 rfl rfl ?_
    obtain ⟨h6, H⟩ := x_ckp H
    obtain ⟨r8, M7, e9, H⟩ := x_bd_of H
    refine x_callV 28 270 8 [(.int v1), (.int v2), (.int v3)] [] dX8_judge_28 (ct_X8_firstWrong l e9) lk_874 lk_876 lk_27 (by decide) h6 lk_85 lk_877 ⟨cn_X8_firstWrong, (by decide), by decide⟩ rfl (Nat.le_of_ble_eq_true rfl) (Nat.le_of_ble_eq_true rfl) (Nat.le_of_ble_eq_true rfl) (x_ri ?_)
    cases H
    exact x_iret 31 dX8_judge_31 .int rfl rfl (Nat.le_of_ble_eq_true rfl) (Nat.le_of_ble_eq_true rfl) ⟨rfl, rfl⟩
  · replace H := x_ifn c5 H
    refine x_aload_n 14 0 dX8_judge_14 rfl rfl ?_
    refine x_iload 15 4 dX8_judge_15 rfl ?_
    obtain ⟨h10, H⟩ := x_ckp H
    obtain ⟨r12, M11, e13, H⟩ := x_bd_of H
    refine x_callV 17 86 8 [(.int s0)] [] dX8_judge_17 (ct_X8_refuse l e13) lk_410 lk_412 lk_0 (by decide) h10 lk_85 lk_413 ⟨cn_X8_refuse, (by decide), by decide⟩ rfl (Nat.le_of_ble_eq_true rfl) (Nat.le_of_ble_eq_true rfl) (Nat.le_of_ble_eq_true rfl) (x_ri ?_)
    exact x_wk (le_n (le_n (le_n (le_n (le_n le_0))))) (t_X8_judge_c17 l H)

def f_X8_judge (v0 : Nat) (v1 : Int32) (v2 : Int32) (v3 : Int32) (M : XM) : Option (Int32 × XM) :=
  if x_tag M v0 = 8 + 10 then (x_bd (f_X8_saidRefusal v0 v1 v2 v3 M) (f_X8_judge_c4 v0 v1 v2 v3)) else none
set_option maxRecDepth 20000 in
set_option maxHeartbeats 4000000 in
theorem t_X8_judge (l : Launch) {v0 : Nat} {v1 : Int32} {v2 : Int32} {v3 : Int32} {M : XM} {q : Int32 × XM} (H : f_X8_judge v0 v1 v2 v3 M = some q) : AW l m_X8_judge 6 0 0 (x_Ri q) 0 0 0 [some (.ref v0), some (.int v1), some (.int v2), some (.int v3), none] [] M := by
  unfold f_X8_judge at H
  refine x_aload_n 0 0 dX8_judge_0 rfl rfl ?_
  refine x_iload_n 1 1 dX8_judge_1 rfl rfl ?_
  refine x_iload_n 2 2 dX8_judge_2 rfl rfl ?_
  refine x_iload_n 3 3 dX8_judge_3 rfl rfl ?_
  obtain ⟨h1, H⟩ := x_ckp H
  obtain ⟨r3, M2, e4, H⟩ := x_bd_of H
  refine x_callV 4 267 8 [(.int v1), (.int v2), (.int v3)] [] dX8_judge_4 (ct_X8_saidRefusal l e4) lk_870 lk_872 lk_26 (by decide) h1 lk_85 lk_873 ⟨cn_X8_saidRefusal, (by decide), by decide⟩ rfl (Nat.le_of_ble_eq_true rfl) (Nat.le_of_ble_eq_true rfl) (Nat.le_of_ble_eq_true rfl) (x_ri ?_)
  exact t_X8_judge_c4 l H

theorem ct_X8_judge (l : Launch) {v0 : Nat} {v1 : Int32} {v2 : Int32} {v3 : Int32} {M : XM} {q : Int32 × XM} (H : f_X8_judge v0 v1 v2 v3 M = some q) : Ct l m_X8_judge 6 0 0 [(.ref v0), (.int v1), (.int v2), (.int v3)] M (x_Ri q) := x_met l m_X8_judge 6 0 0 [(.ref v0), (.int v1), (.int v2), (.int v3)] M (x_Ri q) _ rfl rfl (Nat.le_of_ble_eq_true rfl) (t_X8_judge l H)
abbrev m_X8_breaks : XU := (yX8_breaks, cX8_breaks, 5, (some .int))
theorem cn_X8_breaks : m_X8_breaks.1.cls ≠ "java/lang/invoke/MethodHandle" ∧ m_X8_breaks.1.cls ≠ "java/lang/invoke/VarHandle" ∧ (parseMethodDescriptor m_X8_breaks.1.desc).map (fun q => q.parameters.length) = some 3 := by decide +kernel
def f_X8_breaks_29 (v0 : Nat) (v1 : Int32) (v4 : Int32) (M : XM) : Option (Int32 × XM) :=
  if v4 = 0 then (if x_tag M v0 = 8 + 10 then (if x_tag M (x_r M v0 10) = 2 + 10 then (if x_tag M (x_r M v0 0) = 4 + 10 then (if x_at M (x_r M (x_r M v0 0) 0) 3 v1 = true then (if x_tag M (x_r M (x_r M (x_r M v0 0) 0) v1.toNatClampNeg) = 2 + 10 then (some (((x_i M (x_r M v0 10) 4) - (x_i M (x_r M (x_r M (x_r M v0 0) 0) v1.toNatClampNeg) 4)), M)) else none) else none) else none) else none) else none) else (if x_tag M v0 = 8 + 10 then (x_bd (f_X8_refuse v0 v4 M) (fun r19 M18 => some (r19, M18))) else none)
set_option maxRecDepth 20000 in
set_option maxHeartbeats 4000000 in
theorem t_X8_breaks_29 (l : Launch) {v0 : Nat} {v1 : Int32} {v4 : Int32} {M : XM} {q : Int32 × XM} (H : f_X8_breaks_29 v0 v1 v4 M = some q) : AW l m_X8_breaks 6 0 0 (x_Ri q) 0 0 29 [some (.ref v0), some (.int v1), none, none, some (.int v4)] [] M := by
  unfold f_X8_breaks_29 at H
  refine x_iload 29 4 dX8_breaks_29 rfl ?_
  refine x_if_eq 31 41 dX8_breaks_31 (by decide) (fun c11 => ?_) (fun c11 => ?_)
  · replace H := x_ifp c11 H
    refine x_aload_n 41 0 dX8_breaks_41 rfl rfl ?_
    obtain ⟨h12, H⟩ := x_ckp H
    refine x_getf 42 64 8 10 (.ref (x_r M v0 10)) dX8_breaks_42 lk_370 (by decide) (by decide) rfl (fun _ => rfl) h12 ?_
    obtain ⟨h13, H⟩ := x_ckp H
    refine x_getf 45 175 2 4 (.int (x_i M (x_r M v0 10) 4)) dX8_breaks_45 lk_141 (by decide) (by decide) rfl (fun _ => rfl) h13 ?_
    refine x_aload_n 48 0 dX8_breaks_48 rfl rfl ?_
    refine x_getf 49 10 8 0 (.ref (x_r M v0 0)) dX8_breaks_49 lk_360 (by decide) (by decide) rfl (fun _ => rfl) h12 ?_
    obtain ⟨h14, H⟩ := x_ckp H
    refine x_getf 52 144 4 0 (.ref (x_r M (x_r M v0 0) 0)) dX8_breaks_52 lk_158 (by decide) (by decide) rfl (fun _ => rfl) h14 ?_
    refine x_iload_n 55 1 dX8_breaks_55 rfl rfl ?_
    obtain ⟨h15, H⟩ := x_ckp H
    refine x_aald3 56 dX8_breaks_56 h15 ?_
    obtain ⟨h16, H⟩ := x_ckp H
    refine x_getf 57 175 2 4 (.int (x_i M (x_r M (x_r M (x_r M v0 0) 0) v1.toNatClampNeg) 4)) dX8_breaks_57 lk_141 (by decide) (by decide) rfl (fun _ => rfl) h16 ?_
    refine x_isub 60 dX8_breaks_60 ?_
    cases H
    exact x_iret 61 dX8_breaks_61 .int rfl rfl (Nat.le_of_ble_eq_true rfl) (Nat.le_of_ble_eq_true rfl) ⟨rfl, rfl⟩
  · replace H := x_ifn c11 H
    refine x_aload_n 34 0 dX8_breaks_34 rfl rfl ?_
    refine x_iload 35 4 dX8_breaks_35 rfl ?_
    obtain ⟨h17, H⟩ := x_ckp H
    obtain ⟨r19, M18, e20, H⟩ := x_bd_of H
    refine x_callV 37 86 8 [(.int v4)] [] dX8_breaks_37 (ct_X8_refuse l e20) lk_410 lk_412 lk_0 (by decide) h17 lk_85 lk_413 ⟨cn_X8_refuse, (by decide), by decide⟩ rfl (Nat.le_of_ble_eq_true rfl) (Nat.le_of_ble_eq_true rfl) (Nat.le_of_ble_eq_true rfl) (x_ri ?_)
    cases H
    exact x_iret 40 dX8_breaks_40 .int rfl rfl (Nat.le_of_ble_eq_true rfl) (Nat.le_of_ble_eq_true rfl) ⟨rfl, rfl⟩

def f_X8_breaks_c18 (v0 : Nat) (v1 : Int32) (v4 : Int32) (s0 : Int32) (M : XM) : Option (Int32 × XM) :=
  if s0 = (-1 : Int32) then (f_X8_breaks_29 v0 v1 v4 M) else (f_X8_breaks_29 v0 v1 (-6 : Int32) M)
set_option maxRecDepth 20000 in
set_option maxHeartbeats 4000000 in
theorem t_X8_breaks_c18 (l : Launch) {v0 : Nat} {v1 : Int32} {v4 : Int32} {s0 : Int32} {M : XM} {q : Int32 × XM} (H : f_X8_breaks_c18 v0 v1 v4 s0 M = some q) : AW l m_X8_breaks 6 0 0 (x_Ri q) 0 0 21 [some (.ref v0), some (.int v1), none, none, some (.int v4)] [(.int s0)] M := by
  unfold f_X8_breaks_c18 at H
  refine x_iconst 21 (-1 : Int32) dX8_breaks_21 (by decide) ?_
  refine x_icmp_eq 22 29 dX8_breaks_22 (by decide) (fun c10 => ?_) (fun c10 => ?_)
  · replace H := x_ifp c10 H
    exact t_X8_breaks_29 l H
  · replace H := x_ifn c10 H
    refine x_bipush 25 (-6 : Int32) dX8_breaks_25 (by decide) ?_
    refine x_istore 27 4 [some (.ref v0), some (.int v1), none, none, some (.int (-6 : Int32))] dX8_breaks_27 rfl (Nat.le_of_ble_eq_true rfl) rfl ?_
    exact t_X8_breaks_29 l H

def f_X8_breaks_c4 (v0 : Nat) (v1 : Int32) (v2 : Int32) (v3 : Int32) (s0 : Int32) (M : XM) : Option (Int32 × XM) :=
  if s0 = 0 then (if x_tag M v0 = 8 + 10 then (x_bd (f_X8_firstWrong v0 v1 v2 v3 M) (f_X8_breaks_c18 v0 v1 s0)) else none) else (f_X8_breaks_29 v0 v1 s0 M)
set_option maxRecDepth 20000 in
set_option maxHeartbeats 4000000 in
theorem t_X8_breaks_c4 (l : Launch) {v0 : Nat} {v1 : Int32} {v2 : Int32} {v3 : Int32} {s0 : Int32} {M : XM} {q : Int32 × XM} (H : f_X8_breaks_c4 v0 v1 v2 v3 s0 M = some q) : AW l m_X8_breaks 6 0 0 (x_Ri q) 0 0 7 [some (.ref v0), some (.int v1), some (.int v2), some (.int v3), none] [(.int s0)] M := by
  unfold f_X8_breaks_c4 at H
  refine x_istore 7 4 [some (.ref v0), some (.int v1), some (.int v2), some (.int v3), some (.int s0)] dX8_breaks_7 rfl (Nat.le_of_ble_eq_true rfl) rfl ?_
  refine x_iload 9 4 dX8_breaks_9 rfl ?_
  refine x_if_ne 11 29 dX8_breaks_11 (by decide) (fun c5 => ?_) (fun c5 => ?_)
  · replace H := x_ifn c5 H
    exact x_wk (le_s (le_s (le_n (le_n (le_s le_0))))) (t_X8_breaks_29 l H)
  · replace H := x_ifp c5 H
    refine x_aload_n 14 0 dX8_breaks_14 rfl rfl ?_
    refine x_iload_n 15 1 dX8_breaks_15 rfl rfl ?_
    refine x_iload_n 16 2 dX8_breaks_16 rfl rfl ?_
    refine x_iload_n 17 3 dX8_breaks_17 rfl rfl ?_
    obtain ⟨h6, H⟩ := x_ckp H
    obtain ⟨r8, M7, e9, H⟩ := x_bd_of H
    refine x_callV 18 270 8 [(.int v1), (.int v2), (.int v3)] [] dX8_breaks_18 (ct_X8_firstWrong l e9) lk_874 lk_876 lk_27 (by decide) h6 lk_85 lk_877 ⟨cn_X8_firstWrong, (by decide), by decide⟩ rfl (Nat.le_of_ble_eq_true rfl) (Nat.le_of_ble_eq_true rfl) (Nat.le_of_ble_eq_true rfl) (x_ri ?_)
    exact x_wk (le_s (le_s (le_n (le_n (le_s le_0))))) (t_X8_breaks_c18 l H)

def f_X8_breaks (v0 : Nat) (v1 : Int32) (v2 : Int32) (v3 : Int32) (M : XM) : Option (Int32 × XM) :=
  if x_tag M v0 = 8 + 10 then (x_bd (f_X8_saidRefusal v0 v1 v2 v3 M) (f_X8_breaks_c4 v0 v1 v2 v3)) else none
set_option maxRecDepth 20000 in
set_option maxHeartbeats 4000000 in
theorem t_X8_breaks (l : Launch) {v0 : Nat} {v1 : Int32} {v2 : Int32} {v3 : Int32} {M : XM} {q : Int32 × XM} (H : f_X8_breaks v0 v1 v2 v3 M = some q) : AW l m_X8_breaks 6 0 0 (x_Ri q) 0 0 0 [some (.ref v0), some (.int v1), some (.int v2), some (.int v3), none] [] M := by
  unfold f_X8_breaks at H
  refine x_aload_n 0 0 dX8_breaks_0 rfl rfl ?_
  refine x_iload_n 1 1 dX8_breaks_1 rfl rfl ?_
  refine x_iload_n 2 2 dX8_breaks_2 rfl rfl ?_
  refine x_iload_n 3 3 dX8_breaks_3 rfl rfl ?_
  obtain ⟨h1, H⟩ := x_ckp H
  obtain ⟨r3, M2, e4, H⟩ := x_bd_of H
  refine x_callV 4 267 8 [(.int v1), (.int v2), (.int v3)] [] dX8_breaks_4 (ct_X8_saidRefusal l e4) lk_870 lk_872 lk_26 (by decide) h1 lk_85 lk_873 ⟨cn_X8_saidRefusal, (by decide), by decide⟩ rfl (Nat.le_of_ble_eq_true rfl) (Nat.le_of_ble_eq_true rfl) (Nat.le_of_ble_eq_true rfl) (x_ri ?_)
  exact t_X8_breaks_c4 l H

theorem ct_X8_breaks (l : Launch) {v0 : Nat} {v1 : Int32} {v2 : Int32} {v3 : Int32} {M : XM} {q : Int32 × XM} (H : f_X8_breaks v0 v1 v2 v3 M = some q) : Ct l m_X8_breaks 6 0 0 [(.ref v0), (.int v1), (.int v2), (.int v3)] M (x_Ri q) := x_met l m_X8_breaks 6 0 0 [(.ref v0), (.int v1), (.int v2), (.int v3)] M (x_Ri q) _ rfl rfl (Nat.le_of_ble_eq_true rfl) (t_X8_breaks l H)
abbrev m_X8_quickest : XU := (yX8_quickest, cX8_quickest, 8, (some .int))
theorem cn_X8_quickest : m_X8_quickest.1.cls ≠ "java/lang/invoke/MethodHandle" ∧ m_X8_quickest.1.cls ≠ "java/lang/invoke/VarHandle" ∧ (parseMethodDescriptor m_X8_quickest.1.desc).map (fun q => q.parameters.length) = some 2 := by decide +kernel
def f_X8_quickest_96 (κ31 : Nat → Int32 → Int32 → Int32 → Int32 → Int32 → XM → Option (Int32 × XM)) (v0 : Nat) (v1 : Int32) (v2 : Int32) (v4 : Int32) (v5 : Int32) (v6 : Int32) (M : XM) : Option (Int32 × XM) :=
  κ31 v0 v1 v2 v4 v5 (v6 + (1 : Int32)) M
set_option maxRecDepth 20000 in
set_option maxHeartbeats 4000000 in
theorem t_X8_quickest_96 (l : Launch) {κ31 : Nat → Int32 → Int32 → Int32 → Int32 → Int32 → XM → Option (Int32 × XM)} {v0 : Nat} {v1 : Int32} {v2 : Int32} {v4 : Int32} {v5 : Int32} {v6 : Int32} {M : XM} {q : Int32 × XM} (hκ31 : ∀ (v0 : Nat) (v1 : Int32) (v2 : Int32) (v4 : Int32) (v5 : Int32) (v6 : Int32) (M : XM), κ31 v0 v1 v2 v4 v5 v6 M = some q → AW l m_X8_quickest 6 0 0 (x_Ri q) 0 0 31 [some (.ref v0), some (.int v1), some (.int v2), none, some (.int v4), some (.int v5), some (.int v6), none] [] M) (H : f_X8_quickest_96 κ31 v0 v1 v2 v4 v5 v6 M = some q) : AW l m_X8_quickest 6 0 0 (x_Ri q) 0 0 96 [some (.ref v0), some (.int v1), some (.int v2), none, some (.int v4), some (.int v5), some (.int v6), none] [] M := by
  unfold f_X8_quickest_96 at H
  refine x_iinc 96 6 (v6 + (1 : Int32)) [some (.ref v0), some (.int v1), some (.int v2), none, some (.int v4), some (.int v5), some (.int (v6 + (1 : Int32))), none] dX8_quickest_96 rfl (congrArg (fun z : Int32 => v6 + z) (show Int32.ofInt (1) = (1 : Int32) by decide)) rfl (Nat.le_of_ble_eq_true rfl) rfl ?_
  refine x_goto 99 31 dX8_quickest_99 (by decide) ?_
  exact hκ31 _ _ _ _ _ _ _ H

def f_X8_quickest_c67 (κ31 : Nat → Int32 → Int32 → Int32 → Int32 → Int32 → XM → Option (Int32 × XM)) (v0 : Nat) (v1 : Int32) (v2 : Int32) (v4 : Int32) (v5 : Int32) (v6 : Int32) (s0 : Int32) (M : XM) : Option (Int32 × XM) :=
  if s0 = (-1 : Int32) then (f_X8_quickest_96 κ31 v0 v1 v2 v4 v5 v6 M) else (if s0 < v5 then (f_X8_quickest_96 κ31 v0 v1 v2 v6 s0 v6 M) else (f_X8_quickest_96 κ31 v0 v1 v2 v4 v5 v6 M))
set_option maxRecDepth 20000 in
set_option maxHeartbeats 4000000 in
theorem t_X8_quickest_c67 (l : Launch) {κ31 : Nat → Int32 → Int32 → Int32 → Int32 → Int32 → XM → Option (Int32 × XM)} {v0 : Nat} {v1 : Int32} {v2 : Int32} {v4 : Int32} {v5 : Int32} {v6 : Int32} {s0 : Int32} {M : XM} {q : Int32 × XM} (hκ31 : ∀ (v0 : Nat) (v1 : Int32) (v2 : Int32) (v4 : Int32) (v5 : Int32) (v6 : Int32) (M : XM), κ31 v0 v1 v2 v4 v5 v6 M = some q → AW l m_X8_quickest 6 0 0 (x_Ri q) 0 0 31 [some (.ref v0), some (.int v1), some (.int v2), none, some (.int v4), some (.int v5), some (.int v6), none] [] M) (H : f_X8_quickest_c67 κ31 v0 v1 v2 v4 v5 v6 s0 M = some q) : AW l m_X8_quickest 6 0 0 (x_Ri q) 0 0 70 [some (.ref v0), some (.int v1), some (.int v2), none, some (.int v4), some (.int v5), some (.int v6), none] [(.int s0)] M := by
  unfold f_X8_quickest_c67 at H
  refine x_istore 70 7 [some (.ref v0), some (.int v1), some (.int v2), none, some (.int v4), some (.int v5), some (.int v6), some (.int s0)] dX8_quickest_70 rfl (Nat.le_of_ble_eq_true rfl) rfl ?_
  refine x_iload 72 7 dX8_quickest_72 rfl ?_
  refine x_iconst 74 (-1 : Int32) dX8_quickest_74 (by decide) ?_
  refine x_icmp_eq 75 96 dX8_quickest_75 (by decide) (fun c19 => ?_) (fun c19 => ?_)
  · replace H := x_ifp c19 H
    exact x_wk (le_s (le_s (le_s (le_s (le_s (le_s (le_s (le_n le_0)))))))) (t_X8_quickest_96 l hκ31 H)
  · replace H := x_ifn c19 H
    refine x_iload 78 7 dX8_quickest_78 rfl ?_
    refine x_iload 80 5 dX8_quickest_80 rfl ?_
    refine x_icmp_lt 82 88 dX8_quickest_82 (by decide) (fun c20 => ?_) (fun c20 => ?_)
    · replace H := x_ifp c20 H
      refine x_iload 88 6 dX8_quickest_88 rfl ?_
      refine x_istore 90 4 [some (.ref v0), some (.int v1), some (.int v2), none, some (.int v6), some (.int v5), some (.int v6), some (.int s0)] dX8_quickest_90 rfl (Nat.le_of_ble_eq_true rfl) rfl ?_
      refine x_iload 92 7 dX8_quickest_92 rfl ?_
      refine x_istore 94 5 [some (.ref v0), some (.int v1), some (.int v2), none, some (.int v6), some (.int s0), some (.int v6), some (.int s0)] dX8_quickest_94 rfl (Nat.le_of_ble_eq_true rfl) rfl ?_
      exact x_wk (le_s (le_s (le_s (le_s (le_s (le_s (le_s (le_n le_0)))))))) (t_X8_quickest_96 l hκ31 H)
    · replace H := x_ifn c20 H
      refine x_goto 85 96 dX8_quickest_85 (by decide) ?_
      exact x_wk (le_s (le_s (le_s (le_s (le_s (le_s (le_s (le_n le_0)))))))) (t_X8_quickest_96 l hκ31 H)

def f_X8_quickest_c60 (κ31 : Nat → Int32 → Int32 → Int32 → Int32 → Int32 → XM → Option (Int32 × XM)) (v0 : Nat) (v1 : Int32) (v2 : Int32) (v4 : Int32) (v5 : Int32) (v6 : Int32) (M : XM) : Option (Int32 × XM) :=
  if x_tag M v0 = 8 + 10 then (if x_tag M (x_r M v0 7) = 7 + 10 then (x_bd (f_X7_untilThrough (x_r M v0 7) M) (f_X8_quickest_c67 κ31 v0 v1 v2 v4 v5 v6)) else none) else none
set_option maxRecDepth 20000 in
set_option maxHeartbeats 4000000 in
theorem t_X8_quickest_c60 (l : Launch) {κ31 : Nat → Int32 → Int32 → Int32 → Int32 → Int32 → XM → Option (Int32 × XM)} {v0 : Nat} {v1 : Int32} {v2 : Int32} {v4 : Int32} {v5 : Int32} {v6 : Int32} {M : XM} {q : Int32 × XM} (hκ31 : ∀ (v0 : Nat) (v1 : Int32) (v2 : Int32) (v4 : Int32) (v5 : Int32) (v6 : Int32) (M : XM), κ31 v0 v1 v2 v4 v5 v6 M = some q → AW l m_X8_quickest 6 0 0 (x_Ri q) 0 0 31 [some (.ref v0), some (.int v1), some (.int v2), none, some (.int v4), some (.int v5), some (.int v6), none] [] M) (H : f_X8_quickest_c60 κ31 v0 v1 v2 v4 v5 v6 M = some q) : AW l m_X8_quickest 6 0 0 (x_Ri q) 0 0 63 [some (.ref v0), some (.int v1), some (.int v2), none, some (.int v4), some (.int v5), some (.int v6), none] [] M := by
  unfold f_X8_quickest_c60 at H
  refine x_aload_n 63 0 dX8_quickest_63 rfl rfl ?_
  obtain ⟨h14, H⟩ := x_ckp H
  refine x_getf 64 43 8 7 (.ref (x_r M v0 7)) dX8_quickest_64 lk_367 (by decide) (by decide) rfl (fun _ => rfl) h14 ?_
  obtain ⟨h15, H⟩ := x_ckp H
  obtain ⟨r17, M16, e18, H⟩ := x_bd_of H
  refine x_callV 67 233 7 [] [] dX8_quickest_67 (ct_X7_untilThrough l e18) lk_767 lk_768 lk_769 (by decide) h15 lk_89 lk_770 ⟨cn_X7_untilThrough, (by decide), by decide⟩ rfl (Nat.le_of_ble_eq_true rfl) (Nat.le_of_ble_eq_true rfl) (Nat.le_of_ble_eq_true rfl) (x_ri ?_)
  exact t_X8_quickest_c67 l hκ31 H

def bd_X8_quickest_31 (κ31 : Nat → Int32 → Int32 → Int32 → Int32 → Int32 → XM → Option (Int32 × XM)) (v0 : Nat) (v1 : Int32) (v2 : Int32) (v4 : Int32) (v5 : Int32) (v6 : Int32) (M : XM) : Option (Int32 × XM) :=
  if x_tag M v0 = 8 + 10 then (if x_tag M (x_r M v0 0) = 4 + 10 then (if (x_i M (x_r M v0 0) 1) ≤ v6 then (some (v4, M)) else (if x_at M (x_r M v0 5) 4 v1 = true then (if x_tag M (x_r M v0 7) = 7 + 10 then (x_bv (f_X7_begin (x_r M v0 7) (x_r M v0 0) v6 (x_r M (x_r M v0 5) v1.toNatClampNeg) v2 M) (f_X8_quickest_c60 κ31 v0 v1 v2 v4 v5 v6)) else none) else none)) else none) else none
set_option maxRecDepth 20000 in
set_option maxHeartbeats 4000000 in
theorem tb_X8_quickest_31 (l : Launch) {κ31 : Nat → Int32 → Int32 → Int32 → Int32 → Int32 → XM → Option (Int32 × XM)} {v0 : Nat} {v1 : Int32} {v2 : Int32} {v4 : Int32} {v5 : Int32} {v6 : Int32} {M : XM} {q : Int32 × XM} (hκ31 : ∀ (v0 : Nat) (v1 : Int32) (v2 : Int32) (v4 : Int32) (v5 : Int32) (v6 : Int32) (M : XM), κ31 v0 v1 v2 v4 v5 v6 M = some q → AW l m_X8_quickest 6 0 0 (x_Ri q) 0 0 31 [some (.ref v0), some (.int v1), some (.int v2), none, some (.int v4), some (.int v5), some (.int v6), none] [] M) (H : bd_X8_quickest_31 κ31 v0 v1 v2 v4 v5 v6 M = some q) : AW l m_X8_quickest 6 0 0 (x_Ri q) 0 0 31 [some (.ref v0), some (.int v1), some (.int v2), none, some (.int v4), some (.int v5), some (.int v6), none] [] M := by
  unfold bd_X8_quickest_31 at H
  refine x_iload 31 6 dX8_quickest_31 rfl ?_
  refine x_aload_n 33 0 dX8_quickest_33 rfl rfl ?_
  obtain ⟨h6, H⟩ := x_ckp H
  refine x_getf 34 10 8 0 (.ref (x_r M v0 0)) dX8_quickest_34 lk_360 (by decide) (by decide) rfl (fun _ => rfl) h6 ?_
  obtain ⟨h7, H⟩ := x_ckp H
  refine x_getf 37 273 4 1 (.int (x_i M (x_r M v0 0) 1)) dX8_quickest_37 lk_161 (by decide) (by decide) rfl (fun _ => rfl) h7 ?_
  refine x_icmp_ge 40 102 dX8_quickest_40 (by decide) (fun c8 => ?_) (fun c8 => ?_)
  · replace H := x_ifp c8 H
    refine x_iload 102 4 dX8_quickest_102 rfl ?_
    cases H
    exact x_iret 104 dX8_quickest_104 .int rfl rfl (Nat.le_of_ble_eq_true rfl) (Nat.le_of_ble_eq_true rfl) ⟨rfl, rfl⟩
  · replace H := x_ifn c8 H
    refine x_aload_n 43 0 dX8_quickest_43 rfl rfl ?_
    refine x_getf 44 43 8 7 (.ref (x_r M v0 7)) dX8_quickest_44 lk_367 (by decide) (by decide) rfl (fun _ => rfl) h6 ?_
    refine x_aload_n 47 0 dX8_quickest_47 rfl rfl ?_
    refine x_getf 48 10 8 0 (.ref (x_r M v0 0)) dX8_quickest_48 lk_360 (by decide) (by decide) rfl (fun _ => rfl) h6 ?_
    refine x_iload 51 6 dX8_quickest_51 rfl ?_
    refine x_aload_n 53 0 dX8_quickest_53 rfl rfl ?_
    refine x_getf 54 32 8 5 (.ref (x_r M v0 5)) dX8_quickest_54 lk_365 (by decide) (by decide) rfl (fun _ => rfl) h6 ?_
    refine x_iload_n 57 1 dX8_quickest_57 rfl rfl ?_
    obtain ⟨h9, H⟩ := x_ckp H
    refine x_aald4 58 dX8_quickest_58 h9 ?_
    refine x_iload_n 59 2 dX8_quickest_59 rfl rfl ?_
    obtain ⟨h10, H⟩ := x_ckp H
    obtain ⟨M11, e13, H⟩ := x_bv_of H
    refine x_callV 60 220 7 [(.ref (x_r M v0 0)), (.int v6), (.ref (x_r M (x_r M v0 5) v1.toNatClampNeg)), (.int v2)] [] dX8_quickest_60 (ct_X7_begin l e13) lk_747 lk_748 lk_749 (by decide) h10 lk_89 lk_750 ⟨cn_X7_begin, (by decide), by decide⟩ rfl (Nat.le_of_ble_eq_true rfl) (Nat.le_of_ble_eq_true rfl) (Nat.le_of_ble_eq_true rfl) (x_rv ?_)
    exact t_X8_quickest_c60 l hκ31 H

def lp_X8_quickest_31 (n : Nat) : Nat → Int32 → Int32 → Int32 → Int32 → Int32 → XM → Option (Int32 × XM) := x_rec (fun _ _ _ _ _ _ _ => none) (bd_X8_quickest_31) n
theorem t_X8_quickest_31 (l : Launch) {q : Int32 × XM} : ∀ (n : Nat) (v0 : Nat) (v1 : Int32) (v2 : Int32) (v4 : Int32) (v5 : Int32) (v6 : Int32) (M : XM), lp_X8_quickest_31 n v0 v1 v2 v4 v5 v6 M = some q → AW l m_X8_quickest 6 0 0 (x_Ri q) 0 0 31 [some (.ref v0), some (.int v1), some (.int v2), none, some (.int v4), some (.int v5), some (.int v6), none] [] M := by
  intro n
  induction n with
  | zero => intro v0 v1 v2 v4 v5 v6 M H; cases H
  | succ n ih => intro v0 v1 v2 v4 v5 v6 M H; exact tb_X8_quickest_31 l ih H
def f_X8_quickest_c13 (s0 : Int32) (M : XM) : Option (Int32 × XM) :=
  some ((s0 - (10 : Int32)), M)
set_option maxRecDepth 20000 in
set_option maxHeartbeats 4000000 in
theorem t_X8_quickest_c13 (l : Launch) {s0 : Int32} {M : XM} {q : Int32 × XM} (H : f_X8_quickest_c13 s0 M = some q) : AW l m_X8_quickest 6 0 0 (x_Ri q) 0 0 16 [none, none, none, none, none, none, none, none] [(.int s0)] M := by
  unfold f_X8_quickest_c13 at H
  refine x_bipush 16 (10 : Int32) dX8_quickest_16 (by decide) ?_
  refine x_isub 18 dX8_quickest_18 ?_
  cases H
  exact x_iret 19 dX8_quickest_19 .int rfl rfl (Nat.le_of_ble_eq_true rfl) (Nat.le_of_ble_eq_true rfl) ⟨rfl, rfl⟩

def f_X8_quickest_c3 (v0 : Nat) (v1 : Int32) (v2 : Int32) (s0 : Int32) (M : XM) : Option (Int32 × XM) :=
  if s0 = 0 then (lp_X8_quickest_31 x_fuel v0 v1 v2 (-1 : Int32) (401 : Int32) (0 : Int32) M) else (if x_tag M v0 = 8 + 10 then (x_bd (f_X8_refuse v0 s0 M) f_X8_quickest_c13) else none)
set_option maxRecDepth 20000 in
set_option maxHeartbeats 4000000 in
theorem t_X8_quickest_c3 (l : Launch) {v0 : Nat} {v1 : Int32} {v2 : Int32} {s0 : Int32} {M : XM} {q : Int32 × XM} (H : f_X8_quickest_c3 v0 v1 v2 s0 M = some q) : AW l m_X8_quickest 6 0 0 (x_Ri q) 0 0 6 [some (.ref v0), some (.int v1), some (.int v2), none, none, none, none, none] [(.int s0)] M := by
  unfold f_X8_quickest_c3 at H
  refine x_istore_n 6 3 [some (.ref v0), some (.int v1), some (.int v2), some (.int s0), none, none, none, none] dX8_quickest_6 rfl rfl (Nat.le_of_ble_eq_true rfl) rfl ?_
  refine x_iload_n 7 3 dX8_quickest_7 rfl rfl ?_
  refine x_if_eq 8 20 dX8_quickest_8 (by decide) (fun c5 => ?_) (fun c5 => ?_)
  · replace H := x_ifp c5 H
    refine x_iconst 20 (-1 : Int32) dX8_quickest_20 (by decide) ?_
    refine x_istore 21 4 [some (.ref v0), some (.int v1), some (.int v2), some (.int s0), some (.int (-1 : Int32)), none, none, none] dX8_quickest_21 rfl (Nat.le_of_ble_eq_true rfl) rfl ?_
    refine x_sipush 23 (401 : Int32) dX8_quickest_23 (by decide) ?_
    refine x_istore 26 5 [some (.ref v0), some (.int v1), some (.int v2), some (.int s0), some (.int (-1 : Int32)), some (.int (401 : Int32)), none, none] dX8_quickest_26 rfl (Nat.le_of_ble_eq_true rfl) rfl ?_
    refine x_iconst 28 (0 : Int32) dX8_quickest_28 (by decide) ?_
    refine x_istore 29 6 [some (.ref v0), some (.int v1), some (.int v2), some (.int s0), some (.int (-1 : Int32)), some (.int (401 : Int32)), some (.int (0 : Int32)), none] dX8_quickest_29 rfl (Nat.le_of_ble_eq_true rfl) rfl ?_
    exact x_wk (le_s (le_s (le_s (le_n (le_s (le_s (le_s (le_s le_0)))))))) (t_X8_quickest_31 l _ _ _ _ _ _ _ _ H)
  · replace H := x_ifn c5 H
    refine x_aload_n 11 0 dX8_quickest_11 rfl rfl ?_
    refine x_iload_n 12 3 dX8_quickest_12 rfl rfl ?_
    obtain ⟨h21, H⟩ := x_ckp H
    obtain ⟨r23, M22, e24, H⟩ := x_bd_of H
    refine x_callV 13 86 8 [(.int s0)] [] dX8_quickest_13 (ct_X8_refuse l e24) lk_410 lk_412 lk_0 (by decide) h21 lk_85 lk_413 ⟨cn_X8_refuse, (by decide), by decide⟩ rfl (Nat.le_of_ble_eq_true rfl) (Nat.le_of_ble_eq_true rfl) (Nat.le_of_ble_eq_true rfl) (x_ri ?_)
    exact x_wk (le_n (le_n (le_n (le_n (le_s (le_s (le_s (le_s le_0)))))))) (t_X8_quickest_c13 l H)

def f_X8_quickest (v0 : Nat) (v1 : Int32) (v2 : Int32) (M : XM) : Option (Int32 × XM) :=
  if x_tag M v0 = 8 + 10 then (x_bd (f_X8_secondsRefusal v0 v1 v2 M) (f_X8_quickest_c3 v0 v1 v2)) else none
set_option maxRecDepth 20000 in
set_option maxHeartbeats 4000000 in
theorem t_X8_quickest (l : Launch) {v0 : Nat} {v1 : Int32} {v2 : Int32} {M : XM} {q : Int32 × XM} (H : f_X8_quickest v0 v1 v2 M = some q) : AW l m_X8_quickest 6 0 0 (x_Ri q) 0 0 0 [some (.ref v0), some (.int v1), some (.int v2), none, none, none, none, none] [] M := by
  unfold f_X8_quickest at H
  refine x_aload_n 0 0 dX8_quickest_0 rfl rfl ?_
  refine x_iload_n 1 1 dX8_quickest_1 rfl rfl ?_
  refine x_iload_n 2 2 dX8_quickest_2 rfl rfl ?_
  obtain ⟨h1, H⟩ := x_ckp H
  obtain ⟨r3, M2, e4, H⟩ := x_bd_of H
  refine x_callV 3 230 8 [(.int v1), (.int v2)] [] dX8_quickest_3 (ct_X8_secondsRefusal l e4) lk_763 lk_765 lk_17 (by decide) h1 lk_85 lk_766 ⟨cn_X8_secondsRefusal, (by decide), by decide⟩ rfl (Nat.le_of_ble_eq_true rfl) (Nat.le_of_ble_eq_true rfl) (Nat.le_of_ble_eq_true rfl) (x_ri ?_)
  exact t_X8_quickest_c3 l H

theorem ct_X8_quickest (l : Launch) {v0 : Nat} {v1 : Int32} {v2 : Int32} {M : XM} {q : Int32 × XM} (H : f_X8_quickest v0 v1 v2 M = some q) : Ct l m_X8_quickest 6 0 0 [(.ref v0), (.int v1), (.int v2)] M (x_Ri q) := x_met l m_X8_quickest 6 0 0 [(.ref v0), (.int v1), (.int v2)] M (x_Ri q) _ rfl rfl (Nat.le_of_ble_eq_true rfl) (t_X8_quickest l H)
abbrev m_X8_surest : XU := (yX8_surest, cX8_surest, 6, (some .int))
theorem cn_X8_surest : m_X8_surest.1.cls ≠ "java/lang/invoke/MethodHandle" ∧ m_X8_surest.1.cls ≠ "java/lang/invoke/VarHandle" ∧ (parseMethodDescriptor m_X8_surest.1.desc).map (fun q => q.parameters.length) = some 1 := by decide +kernel
def f_X8_surest_28 (v0 : Nat) (M : XM) : Option (Int32 × XM) :=
  if x_tag M v0 = 8 + 10 then (x_bd (f_X8_refuse v0 (-6 : Int32) M) (fun r10 M9 => some (r10, M9))) else none
set_option maxRecDepth 20000 in
set_option maxHeartbeats 4000000 in
theorem t_X8_surest_28 (l : Launch) {v0 : Nat} {M : XM} {q : Int32 × XM} (H : f_X8_surest_28 v0 M = some q) : AW l m_X8_surest 7 0 0 (x_Ri q) 0 0 28 [some (.ref v0), none, none, none, none, none] [] M := by
  unfold f_X8_surest_28 at H
  refine x_aload_n 28 0 dX8_surest_28 rfl rfl ?_
  refine x_bipush 29 (-6 : Int32) dX8_surest_29 (by decide) ?_
  obtain ⟨h8, H⟩ := x_ckp H
  obtain ⟨r10, M9, e11, H⟩ := x_bd_of H
  refine x_callV 31 86 8 [(.int (-6 : Int32))] [] dX8_surest_31 (ct_X8_refuse l e11) lk_410 lk_412 lk_0 (by decide) h8 lk_85 lk_413 ⟨cn_X8_refuse, (by decide), by decide⟩ rfl (Nat.le_of_ble_eq_true rfl) (Nat.le_of_ble_eq_true rfl) (Nat.le_of_ble_eq_true rfl) (x_ri ?_)
  cases H
  exact x_iret 34 dX8_surest_34 .int rfl rfl (Nat.le_of_ble_eq_true rfl) (Nat.le_of_ble_eq_true rfl) ⟨rfl, rfl⟩

def f_X8_surest_85 (κ42 : Nat → Int32 → Int32 → Int32 → Int32 → XM → Option (Int32 × XM)) (v0 : Nat) (v1 : Int32) (v2 : Int32) (v3 : Int32) (v4 : Int32) (M : XM) : Option (Int32 × XM) :=
  κ42 v0 v1 v2 v3 (v4 + (1 : Int32)) M
set_option maxRecDepth 20000 in
set_option maxHeartbeats 4000000 in
theorem t_X8_surest_85 (l : Launch) {κ42 : Nat → Int32 → Int32 → Int32 → Int32 → XM → Option (Int32 × XM)} {v0 : Nat} {v1 : Int32} {v2 : Int32} {v3 : Int32} {v4 : Int32} {M : XM} {q : Int32 × XM} (hκ42 : ∀ (v0 : Nat) (v1 : Int32) (v2 : Int32) (v3 : Int32) (v4 : Int32) (M : XM), κ42 v0 v1 v2 v3 v4 M = some q → AW l m_X8_surest 7 0 0 (x_Ri q) 0 0 42 [some (.ref v0), some (.int v1), some (.int v2), some (.int v3), some (.int v4), none] [] M) (H : f_X8_surest_85 κ42 v0 v1 v2 v3 v4 M = some q) : AW l m_X8_surest 7 0 0 (x_Ri q) 0 0 85 [some (.ref v0), some (.int v1), some (.int v2), some (.int v3), some (.int v4), none] [] M := by
  unfold f_X8_surest_85 at H
  refine x_iinc 85 4 (v4 + (1 : Int32)) [some (.ref v0), some (.int v1), some (.int v2), some (.int v3), some (.int (v4 + (1 : Int32))), none] dX8_surest_85 rfl (congrArg (fun z : Int32 => v4 + z) (show Int32.ofInt (1) = (1 : Int32) by decide)) rfl (Nat.le_of_ble_eq_true rfl) rfl ?_
  refine x_goto 88 42 dX8_surest_88 (by decide) ?_
  exact hκ42 _ _ _ _ _ _ H

def f_X8_surest_c65 (κ42 : Nat → Int32 → Int32 → Int32 → Int32 → XM → Option (Int32 × XM)) (v0 : Nat) (v1 : Int32) (v2 : Int32) (v3 : Int32) (v4 : Int32) (s0 : Int32) (M : XM) : Option (Int32 × XM) :=
  if v3 < s0 then (f_X8_surest_85 κ42 v0 v1 v4 s0 v4 M) else (f_X8_surest_85 κ42 v0 v1 v2 v3 v4 M)
set_option maxRecDepth 20000 in
set_option maxHeartbeats 4000000 in
theorem t_X8_surest_c65 (l : Launch) {κ42 : Nat → Int32 → Int32 → Int32 → Int32 → XM → Option (Int32 × XM)} {v0 : Nat} {v1 : Int32} {v2 : Int32} {v3 : Int32} {v4 : Int32} {s0 : Int32} {M : XM} {q : Int32 × XM} (hκ42 : ∀ (v0 : Nat) (v1 : Int32) (v2 : Int32) (v3 : Int32) (v4 : Int32) (M : XM), κ42 v0 v1 v2 v3 v4 M = some q → AW l m_X8_surest 7 0 0 (x_Ri q) 0 0 42 [some (.ref v0), some (.int v1), some (.int v2), some (.int v3), some (.int v4), none] [] M) (H : f_X8_surest_c65 κ42 v0 v1 v2 v3 v4 s0 M = some q) : AW l m_X8_surest 7 0 0 (x_Ri q) 0 0 68 [some (.ref v0), some (.int v1), some (.int v2), some (.int v3), some (.int v4), none] [(.int s0)] M := by
  unfold f_X8_surest_c65 at H
  refine x_istore 68 5 [some (.ref v0), some (.int v1), some (.int v2), some (.int v3), some (.int v4), some (.int s0)] dX8_surest_68 rfl (Nat.le_of_ble_eq_true rfl) rfl ?_
  refine x_iload 70 5 dX8_surest_70 rfl ?_
  refine x_iload_n 72 3 dX8_surest_72 rfl rfl ?_
  refine x_icmp_gt 73 79 dX8_surest_73 (by decide) (fun c20 => ?_) (fun c20 => ?_)
  · replace H := x_ifp c20 H
    refine x_iload 79 4 dX8_surest_79 rfl ?_
    refine x_istore_n 81 2 [some (.ref v0), some (.int v1), some (.int v4), some (.int v3), some (.int v4), some (.int s0)] dX8_surest_81 rfl rfl (Nat.le_of_ble_eq_true rfl) rfl ?_
    refine x_iload 82 5 dX8_surest_82 rfl ?_
    refine x_istore_n 84 3 [some (.ref v0), some (.int v1), some (.int v4), some (.int s0), some (.int v4), some (.int s0)] dX8_surest_84 rfl rfl (Nat.le_of_ble_eq_true rfl) rfl ?_
    exact x_wk (le_s (le_s (le_s (le_s (le_s (le_n le_0)))))) (t_X8_surest_85 l hκ42 H)
  · replace H := x_ifn c20 H
    refine x_goto 76 85 dX8_surest_76 (by decide) ?_
    exact x_wk (le_s (le_s (le_s (le_s (le_s (le_n le_0)))))) (t_X8_surest_85 l hκ42 H)

def bd_X8_surest_42 (κ42 : Nat → Int32 → Int32 → Int32 → Int32 → XM → Option (Int32 × XM)) (v0 : Nat) (v1 : Int32) (v2 : Int32) (v3 : Int32) (v4 : Int32) (M : XM) : Option (Int32 × XM) :=
  if x_tag M v0 = 8 + 10 then (if x_tag M (x_r M v0 0) = 4 + 10 then (if (x_i M (x_r M v0 0) 1) ≤ v4 then (some (v2, M)) else (if x_tag M (x_r M v0 8) = 1 + 10 then (x_bd (f_X1_behind (x_r M v0 8) (x_r M v0 0) v4 v1 M) (f_X8_surest_c65 κ42 v0 v1 v2 v3 v4)) else none)) else none) else none
set_option maxRecDepth 20000 in
set_option maxHeartbeats 4000000 in
theorem tb_X8_surest_42 (l : Launch) {κ42 : Nat → Int32 → Int32 → Int32 → Int32 → XM → Option (Int32 × XM)} {v0 : Nat} {v1 : Int32} {v2 : Int32} {v3 : Int32} {v4 : Int32} {M : XM} {q : Int32 × XM} (hκ42 : ∀ (v0 : Nat) (v1 : Int32) (v2 : Int32) (v3 : Int32) (v4 : Int32) (M : XM), κ42 v0 v1 v2 v3 v4 M = some q → AW l m_X8_surest 7 0 0 (x_Ri q) 0 0 42 [some (.ref v0), some (.int v1), some (.int v2), some (.int v3), some (.int v4), none] [] M) (H : bd_X8_surest_42 κ42 v0 v1 v2 v3 v4 M = some q) : AW l m_X8_surest 7 0 0 (x_Ri q) 0 0 42 [some (.ref v0), some (.int v1), some (.int v2), some (.int v3), some (.int v4), none] [] M := by
  unfold bd_X8_surest_42 at H
  refine x_iload 42 4 dX8_surest_42 rfl ?_
  refine x_aload_n 44 0 dX8_surest_44 rfl rfl ?_
  obtain ⟨h13, H⟩ := x_ckp H
  refine x_getf 45 10 8 0 (.ref (x_r M v0 0)) dX8_surest_45 lk_360 (by decide) (by decide) rfl (fun _ => rfl) h13 ?_
  obtain ⟨h14, H⟩ := x_ckp H
  refine x_getf 48 273 4 1 (.int (x_i M (x_r M v0 0) 1)) dX8_surest_48 lk_161 (by decide) (by decide) rfl (fun _ => rfl) h14 ?_
  refine x_icmp_ge 51 91 dX8_surest_51 (by decide) (fun c15 => ?_) (fun c15 => ?_)
  · replace H := x_ifp c15 H
    refine x_iload_n 91 2 dX8_surest_91 rfl rfl ?_
    cases H
    exact x_iret 92 dX8_surest_92 .int rfl rfl (Nat.le_of_ble_eq_true rfl) (Nat.le_of_ble_eq_true rfl) ⟨rfl, rfl⟩
  · replace H := x_ifn c15 H
    refine x_aload_n 54 0 dX8_surest_54 rfl rfl ?_
    refine x_getf 55 50 8 8 (.ref (x_r M v0 8)) dX8_surest_55 lk_368 (by decide) (by decide) rfl (fun _ => rfl) h13 ?_
    refine x_aload_n 58 0 dX8_surest_58 rfl rfl ?_
    refine x_getf 59 10 8 0 (.ref (x_r M v0 0)) dX8_surest_59 lk_360 (by decide) (by decide) rfl (fun _ => rfl) h13 ?_
    refine x_iload 62 4 dX8_surest_62 rfl ?_
    refine x_iload_n 64 1 dX8_surest_64 rfl rfl ?_
    obtain ⟨h16, H⟩ := x_ckp H
    obtain ⟨r18, M17, e19, H⟩ := x_bd_of H
    refine x_callV 65 236 1 [(.ref (x_r M v0 0)), (.int v4), (.int v1)] [] dX8_surest_65 (ct_X1_behind l e19) lk_776 lk_777 lk_778 (by decide) h16 lk_90 lk_779 ⟨cn_X1_behind, (by decide), by decide⟩ rfl (Nat.le_of_ble_eq_true rfl) (Nat.le_of_ble_eq_true rfl) (Nat.le_of_ble_eq_true rfl) (x_ri ?_)
    exact t_X8_surest_c65 l hκ42 H

def lp_X8_surest_42 (n : Nat) : Nat → Int32 → Int32 → Int32 → Int32 → XM → Option (Int32 × XM) := x_rec (fun _ _ _ _ _ _ => none) (bd_X8_surest_42) n
theorem t_X8_surest_42 (l : Launch) {q : Int32 × XM} : ∀ (n : Nat) (v0 : Nat) (v1 : Int32) (v2 : Int32) (v3 : Int32) (v4 : Int32) (M : XM), lp_X8_surest_42 n v0 v1 v2 v3 v4 M = some q → AW l m_X8_surest 7 0 0 (x_Ri q) 0 0 42 [some (.ref v0), some (.int v1), some (.int v2), some (.int v3), some (.int v4), none] [] M := by
  intro n
  induction n with
  | zero => intro v0 v1 v2 v3 v4 M H; cases H
  | succ n ih => intro v0 v1 v2 v3 v4 M H; exact tb_X8_surest_42 l ih H
def f_X8_surest (v0 : Nat) (v1 : Int32) (M : XM) : Option (Int32 × XM) :=
  if x_tag M v0 = 8 + 10 then (if x_tag M (x_r M v0 0) = 4 + 10 then (if (x_i M (x_r M v0 0) 1) = 0 then (x_bd (f_X8_refuse v0 (-5 : Int32) M) (fun r5 M4 => some (r5, M4))) else (if v1 < 0 then (f_X8_surest_28 v0 M) else (if v1 ≤ (400 : Int32) then (lp_X8_surest_42 x_fuel v0 v1 (0 : Int32) (-1 : Int32) (0 : Int32) M) else (f_X8_surest_28 v0 M)))) else none) else none
set_option maxRecDepth 20000 in
set_option maxHeartbeats 4000000 in
theorem t_X8_surest (l : Launch) {v0 : Nat} {v1 : Int32} {M : XM} {q : Int32 × XM} (H : f_X8_surest v0 v1 M = some q) : AW l m_X8_surest 7 0 0 (x_Ri q) 0 0 0 [some (.ref v0), some (.int v1), none, none, none, none] [] M := by
  unfold f_X8_surest at H
  refine x_aload_n 0 0 dX8_surest_0 rfl rfl ?_
  obtain ⟨h1, H⟩ := x_ckp H
  refine x_getf 1 10 8 0 (.ref (x_r M v0 0)) dX8_surest_1 lk_360 (by decide) (by decide) rfl (fun _ => rfl) h1 ?_
  obtain ⟨h2, H⟩ := x_ckp H
  refine x_getf 4 273 4 1 (.int (x_i M (x_r M v0 0) 1)) dX8_surest_4 lk_161 (by decide) (by decide) rfl (fun _ => rfl) h2 ?_
  refine x_if_ne 7 17 dX8_surest_7 (by decide) (fun c3 => ?_) (fun c3 => ?_)
  · replace H := x_ifn c3 H
    refine x_iload_n 17 1 dX8_surest_17 rfl rfl ?_
    refine x_if_lt 18 28 dX8_surest_18 (by decide) (fun c7 => ?_) (fun c7 => ?_)
    · replace H := x_ifp c7 H
      exact x_wk (le_s (le_n (le_s (le_s (le_s (le_s le_0)))))) (t_X8_surest_28 l H)
    · replace H := x_ifn c7 H
      refine x_iload_n 21 1 dX8_surest_21 rfl rfl ?_
      refine x_sipush 22 (400 : Int32) dX8_surest_22 (by decide) ?_
      refine x_icmp_le 25 35 dX8_surest_25 (by decide) (fun c12 => ?_) (fun c12 => ?_)
      · replace H := x_ifp c12 H
        refine x_iconst 35 (0 : Int32) dX8_surest_35 (by decide) ?_
        refine x_istore_n 36 2 [some (.ref v0), some (.int v1), some (.int (0 : Int32)), none, none, none] dX8_surest_36 rfl rfl (Nat.le_of_ble_eq_true rfl) rfl ?_
        refine x_iconst 37 (-1 : Int32) dX8_surest_37 (by decide) ?_
        refine x_istore_n 38 3 [some (.ref v0), some (.int v1), some (.int (0 : Int32)), some (.int (-1 : Int32)), none, none] dX8_surest_38 rfl rfl (Nat.le_of_ble_eq_true rfl) rfl ?_
        refine x_iconst 39 (0 : Int32) dX8_surest_39 (by decide) ?_
        refine x_istore 40 4 [some (.ref v0), some (.int v1), some (.int (0 : Int32)), some (.int (-1 : Int32)), some (.int (0 : Int32)), none] dX8_surest_40 rfl (Nat.le_of_ble_eq_true rfl) rfl ?_
        exact t_X8_surest_42 l _ _ _ _ _ _ _ H
      · replace H := x_ifn c12 H
        exact x_wk (le_s (le_n (le_s (le_s (le_s (le_s le_0)))))) (t_X8_surest_28 l H)
  · replace H := x_ifp c3 H
    refine x_aload_n 10 0 dX8_surest_10 rfl rfl ?_
    refine x_bipush 11 (-5 : Int32) dX8_surest_11 (by decide) ?_
    obtain ⟨r5, M4, e6, H⟩ := x_bd_of H
    refine x_callV 13 86 8 [(.int (-5 : Int32))] [] dX8_surest_13 (ct_X8_refuse l e6) lk_410 lk_412 lk_0 (by decide) h1 lk_85 lk_413 ⟨cn_X8_refuse, (by decide), by decide⟩ rfl (Nat.le_of_ble_eq_true rfl) (Nat.le_of_ble_eq_true rfl) (Nat.le_of_ble_eq_true rfl) (x_ri ?_)
    cases H
    exact x_iret 16 dX8_surest_16 .int rfl rfl (Nat.le_of_ble_eq_true rfl) (Nat.le_of_ble_eq_true rfl) ⟨rfl, rfl⟩

theorem ct_X8_surest (l : Launch) {v0 : Nat} {v1 : Int32} {M : XM} {q : Int32 × XM} (H : f_X8_surest v0 v1 M = some q) : Ct l m_X8_surest 7 0 0 [(.ref v0), (.int v1)] M (x_Ri q) := x_met l m_X8_surest 7 0 0 [(.ref v0), (.int v1)] M (x_Ri q) _ rfl rfl (Nat.le_of_ble_eq_true rfl) (t_X8_surest l H)
theorem lk_900 : Cond.methodLink RX8 359 yJ7_fill_53178 ∈ x_TB := x_tb (k := 900) (by decide +kernel) rfl
abbrev m_X8_noteFirstOffs : XU := (yX8_noteFirstOffs, cX8_noteFirstOffs, 6, none)
theorem cn_X8_noteFirstOffs : m_X8_noteFirstOffs.1.cls ≠ "java/lang/invoke/MethodHandle" ∧ m_X8_noteFirstOffs.1.cls ≠ "java/lang/invoke/VarHandle" ∧ (parseMethodDescriptor m_X8_noteFirstOffs.1.desc).map (fun q => q.parameters.length) = some 3 := by decide +kernel
def f_X8_noteFirstOffs_c93 (κ35 : Nat → Nat → Int32 → XM → Option XM) (v0 : Nat) (v3 : Nat) (v4 : Int32) (M : XM) : Option XM :=
  κ35 v0 v3 (v4 + (1 : Int32)) M
set_option maxRecDepth 20000 in
set_option maxHeartbeats 4000000 in
theorem t_X8_noteFirstOffs_c93 (l : Launch) {κ35 : Nat → Nat → Int32 → XM → Option XM} {v0 : Nat} {v3 : Nat} {v4 : Int32} {M : XM} {q : XM} (hκ35 : ∀ (v0 : Nat) (v3 : Nat) (v4 : Int32) (M : XM), κ35 v0 v3 v4 M = some q → AW l m_X8_noteFirstOffs 5 0 0 (x_Rv q) 0 0 35 [some (.ref v0), none, none, some (.ref v3), some (.int v4), none] [] M) (H : f_X8_noteFirstOffs_c93 κ35 v0 v3 v4 M = some q) : AW l m_X8_noteFirstOffs 5 0 0 (x_Rv q) 0 0 96 [some (.ref v0), none, none, some (.ref v3), some (.int v4), none] [] M := by
  unfold f_X8_noteFirstOffs_c93 at H
  refine x_iinc 96 4 (v4 + (1 : Int32)) [some (.ref v0), none, none, some (.ref v3), some (.int (v4 + (1 : Int32))), none] dX8_noteFirstOffs_96 rfl (congrArg (fun z : Int32 => v4 + z) (show Int32.ofInt (1) = (1 : Int32) by decide)) rfl (Nat.le_of_ble_eq_true rfl) rfl ?_
  refine x_goto 99 35 dX8_noteFirstOffs_99 (by decide) ?_
  exact hκ35 _ _ _ _ H

def f_X8_noteFirstOffs_89 (κ35 : Nat → Nat → Int32 → XM → Option XM) (v0 : Nat) (v3 : Nat) (v4 : Int32) (M : XM) : Option XM :=
  if x_tag M v0 = 8 + 10 then (if x_tag M (x_r M v0 7) = 7 + 10 then (x_bv (f_X7_step (x_r M v0 7) M) (f_X8_noteFirstOffs_c93 κ35 v0 v3 v4)) else none) else none
set_option maxRecDepth 20000 in
set_option maxHeartbeats 4000000 in
theorem t_X8_noteFirstOffs_89 (l : Launch) {κ35 : Nat → Nat → Int32 → XM → Option XM} {v0 : Nat} {v3 : Nat} {v4 : Int32} {M : XM} {q : XM} (hκ35 : ∀ (v0 : Nat) (v3 : Nat) (v4 : Int32) (M : XM), κ35 v0 v3 v4 M = some q → AW l m_X8_noteFirstOffs 5 0 0 (x_Rv q) 0 0 35 [some (.ref v0), none, none, some (.ref v3), some (.int v4), none] [] M) (H : f_X8_noteFirstOffs_89 κ35 v0 v3 v4 M = some q) : AW l m_X8_noteFirstOffs 5 0 0 (x_Rv q) 0 0 89 [some (.ref v0), none, none, some (.ref v3), some (.int v4), none] [] M := by
  unfold f_X8_noteFirstOffs_89 at H
  refine x_aload_n 89 0 dX8_noteFirstOffs_89 rfl rfl ?_
  obtain ⟨h16, H⟩ := x_ckp H
  refine x_getf 90 43 8 7 (.ref (x_r M v0 7)) dX8_noteFirstOffs_90 lk_367 (by decide) (by decide) rfl (fun _ => rfl) h16 ?_
  obtain ⟨h17, H⟩ := x_ckp H
  obtain ⟨M18, e20, H⟩ := x_bv_of H
  refine x_callV 93 224 7 [] [] dX8_noteFirstOffs_93 (ct_X7_step l e20) lk_754 lk_755 lk_756 (by decide) h17 lk_89 lk_757 ⟨cn_X7_step, (by decide), by decide⟩ rfl (Nat.le_of_ble_eq_true rfl) (Nat.le_of_ble_eq_true rfl) (Nat.le_of_ble_eq_true rfl) (x_rv ?_)
  exact t_X8_noteFirstOffs_c93 l hκ35 H

def bd_X8_noteFirstOffs_35 (κ35 : Nat → Nat → Int32 → XM → Option XM) (v0 : Nat) (v3 : Nat) (v4 : Int32) (M : XM) : Option XM :=
  if (400 : Int32) < v4 then (some M) else (if x_tag M v0 = 8 + 10 then (if x_tag M (x_r M v0 7) = 7 + 10 then (if x_tag M (x_r M (x_r M v0 7) 0) = 2 + 10 then (if (x_i M (x_r M (x_r M v0 7) 0) 2) < 0 then (f_X8_noteFirstOffs_89 κ35 v0 v3 v4 M) else (if x_tag M v3 = 1 then (if (Int32.ofNat (x_len M v3)) ≤ (x_i M (x_r M (x_r M v0 7) 0) 2) then (f_X8_noteFirstOffs_89 κ35 v0 v3 v4 M) else (if x_at M v3 1 (x_i M (x_r M (x_r M v0 7) 0) 2) = true then (if (x_i M v3 (x_i M (x_r M (x_r M v0 7) 0) 2).toNatClampNeg) = (-1 : Int32) then (x_lt (x_wi M v3 (x_i M (x_r M (x_r M v0 7) 0) 2).toNatClampNeg (x_i M (x_r M (x_r M v0 7) 0) 3)) (fun M25 => f_X8_noteFirstOffs_89 κ35 v0 v3 v4 M25)) else (f_X8_noteFirstOffs_89 κ35 v0 v3 v4 M)) else none)) else none)) else none) else none) else none)
set_option maxRecDepth 20000 in
set_option maxHeartbeats 4000000 in
theorem tb_X8_noteFirstOffs_35 (l : Launch) {κ35 : Nat → Nat → Int32 → XM → Option XM} {v0 : Nat} {v3 : Nat} {v4 : Int32} {M : XM} {q : XM} (hκ35 : ∀ (v0 : Nat) (v3 : Nat) (v4 : Int32) (M : XM), κ35 v0 v3 v4 M = some q → AW l m_X8_noteFirstOffs 5 0 0 (x_Rv q) 0 0 35 [some (.ref v0), none, none, some (.ref v3), some (.int v4), none] [] M) (H : bd_X8_noteFirstOffs_35 κ35 v0 v3 v4 M = some q) : AW l m_X8_noteFirstOffs 5 0 0 (x_Rv q) 0 0 35 [some (.ref v0), none, none, some (.ref v3), some (.int v4), none] [] M := by
  unfold bd_X8_noteFirstOffs_35 at H
  refine x_iload 35 4 dX8_noteFirstOffs_35 rfl ?_
  refine x_sipush 37 (400 : Int32) dX8_noteFirstOffs_37 (by decide) ?_
  refine x_icmp_gt 40 102 dX8_noteFirstOffs_40 (by decide) (fun c11 => ?_) (fun c11 => ?_)
  · replace H := x_ifp c11 H
    cases H
    exact x_vret 102 dX8_noteFirstOffs_102 rfl (Nat.le_of_ble_eq_true rfl) (Nat.le_of_ble_eq_true rfl) ⟨rfl, rfl⟩
  · replace H := x_ifn c11 H
    refine x_aload_n 43 0 dX8_noteFirstOffs_43 rfl rfl ?_
    obtain ⟨h12, H⟩ := x_ckp H
    refine x_getf 44 43 8 7 (.ref (x_r M v0 7)) dX8_noteFirstOffs_44 lk_367 (by decide) (by decide) rfl (fun _ => rfl) h12 ?_
    obtain ⟨h13, H⟩ := x_ckp H
    refine x_getf 47 227 7 0 (.ref (x_r M (x_r M v0 7) 0)) dX8_noteFirstOffs_47 lk_243 (by decide) (by decide) rfl (fun _ => rfl) h13 ?_
    obtain ⟨h14, H⟩ := x_ckp H
    refine x_getf 50 169 2 2 (.int (x_i M (x_r M (x_r M v0 7) 0) 2)) dX8_noteFirstOffs_50 lk_135 (by decide) (by decide) rfl (fun _ => rfl) h14 ?_
    refine x_istore 53 5 [some (.ref v0), none, none, some (.ref v3), some (.int v4), some (.int (x_i M (x_r M (x_r M v0 7) 0) 2))] dX8_noteFirstOffs_53 rfl (Nat.le_of_ble_eq_true rfl) rfl ?_
    refine x_iload 55 5 dX8_noteFirstOffs_55 rfl ?_
    refine x_if_lt 57 89 dX8_noteFirstOffs_57 (by decide) (fun c15 => ?_) (fun c15 => ?_)
    · replace H := x_ifp c15 H
      exact x_wk (le_s (le_s (le_s (le_s (le_s (le_n le_0)))))) (t_X8_noteFirstOffs_89 l hκ35 H)
    · replace H := x_ifn c15 H
      refine x_iload 60 5 dX8_noteFirstOffs_60 rfl ?_
      refine x_aload_n 62 3 dX8_noteFirstOffs_62 rfl rfl ?_
      obtain ⟨h21, H⟩ := x_ckp H
      refine x_alen 63 1 dX8_noteFirstOffs_63 h21 (by decide) ?_
      refine x_icmp_ge 64 89 dX8_noteFirstOffs_64 (by decide) (fun c22 => ?_) (fun c22 => ?_)
      · replace H := x_ifp c22 H
        exact x_wk (le_s (le_s (le_s (le_s (le_s (le_n le_0)))))) (t_X8_noteFirstOffs_89 l hκ35 H)
      · replace H := x_ifn c22 H
        refine x_aload_n 67 3 dX8_noteFirstOffs_67 rfl rfl ?_
        refine x_iload 68 5 dX8_noteFirstOffs_68 rfl ?_
        obtain ⟨h23, H⟩ := x_ckp H
        refine x_iald 70 dX8_noteFirstOffs_70 h23 ?_
        refine x_iconst 71 (-1 : Int32) dX8_noteFirstOffs_71 (by decide) ?_
        refine x_icmp_ne 72 89 dX8_noteFirstOffs_72 (by decide) (fun c24 => ?_) (fun c24 => ?_)
        · replace H := x_ifn c24 H
          exact x_wk (le_s (le_s (le_s (le_s (le_s (le_n le_0)))))) (t_X8_noteFirstOffs_89 l hκ35 H)
        · replace H := x_ifp c24 H
          refine x_aload_n 75 3 dX8_noteFirstOffs_75 rfl rfl ?_
          refine x_iload 76 5 dX8_noteFirstOffs_76 rfl ?_
          refine x_aload_n 78 0 dX8_noteFirstOffs_78 rfl rfl ?_
          refine x_getf 79 43 8 7 (.ref (x_r M v0 7)) dX8_noteFirstOffs_79 lk_367 (by decide) (by decide) rfl (fun _ => rfl) h12 ?_
          refine x_getf 82 227 7 0 (.ref (x_r M (x_r M v0 7) 0)) dX8_noteFirstOffs_82 lk_243 (by decide) (by decide) rfl (fun _ => rfl) h13 ?_
          refine x_getf 85 172 2 3 (.int (x_i M (x_r M (x_r M v0 7) 0) 3)) dX8_noteFirstOffs_85 lk_137 (by decide) (by decide) rfl (fun _ => rfl) h14 ?_
          obtain ⟨M25, w26, H⟩ := x_lt_of H
          have h27 : x_tag M25 v0 = 8 + 10 := by rw [w26]; exact h12
          have h28 : x_tag M25 (x_r M v0 7) = 7 + 10 := by rw [w26]; exact h13
          have h29 : x_tag M25 (x_r M (x_r M v0 7) 0) = 2 + 10 := by rw [w26]; exact h14
          have h30 : x_tag M25 v3 = 1 := by rw [w26]; exact h21
          have h31 : x_at M25 v3 1 (x_i M (x_r M (x_r M v0 7) 0) 2) = true := by rw [w26]; exact h23
          refine x_iast' 88 dX8_noteFirstOffs_88 h23 w26 ?_
          exact x_wk (le_s (le_s (le_s (le_s (le_s (le_n le_0)))))) (t_X8_noteFirstOffs_89 l hκ35 H)

def lp_X8_noteFirstOffs_35 (n : Nat) : Nat → Nat → Int32 → XM → Option XM := x_rec (fun _ _ _ _ => none) (bd_X8_noteFirstOffs_35) n
theorem t_X8_noteFirstOffs_35 (l : Launch) {q : XM} : ∀ (n : Nat) (v0 : Nat) (v3 : Nat) (v4 : Int32) (M : XM), lp_X8_noteFirstOffs_35 n v0 v3 v4 M = some q → AW l m_X8_noteFirstOffs 5 0 0 (x_Rv q) 0 0 35 [some (.ref v0), none, none, some (.ref v3), some (.int v4), none] [] M := by
  intro n
  induction n with
  | zero => intro v0 v3 v4 M H; cases H
  | succ n ih => intro v0 v3 v4 M H; exact tb_X8_noteFirstOffs_35 l ih H
def f_X8_noteFirstOffs_c29 (v0 : Nat) (v3 : Nat) (M : XM) : Option XM :=
  lp_X8_noteFirstOffs_35 x_fuel v0 v3 (0 : Int32) M
set_option maxRecDepth 20000 in
set_option maxHeartbeats 4000000 in
theorem t_X8_noteFirstOffs_c29 (l : Launch) {v0 : Nat} {v3 : Nat} {M : XM} {q : XM} (H : f_X8_noteFirstOffs_c29 v0 v3 M = some q) : AW l m_X8_noteFirstOffs 5 0 0 (x_Rv q) 0 0 32 [some (.ref v0), none, none, some (.ref v3), none, none] [] M := by
  unfold f_X8_noteFirstOffs_c29 at H
  refine x_iconst 32 (0 : Int32) dX8_noteFirstOffs_32 (by decide) ?_
  refine x_istore 33 4 [some (.ref v0), none, none, some (.ref v3), some (.int (0 : Int32)), none] dX8_noteFirstOffs_33 rfl (Nat.le_of_ble_eq_true rfl) rfl ?_
  exact t_X8_noteFirstOffs_35 l _ _ _ _ _ H

def f_X8_noteFirstOffs_c2 (v0 : Nat) (v1 : Int32) (v2 : Int32) (v3 : Nat) (M : XM) : Option XM :=
  if x_tag M v0 = 8 + 10 then (if x_at M (x_r M v0 5) 4 v2 = true then (if x_tag M (x_r M (x_r M v0 5) v2.toNatClampNeg) = 6 + 10 then (if x_tag M (x_r M v0 7) = 7 + 10 then (x_bv (f_X7_begin (x_r M v0 7) (x_r M v0 0) v1 (x_r M (x_r M v0 5) v2.toNatClampNeg) (x_i M (x_r M (x_r M v0 5) v2.toNatClampNeg) 2) M) (f_X8_noteFirstOffs_c29 v0 v3)) else none) else none) else none) else none
set_option maxRecDepth 20000 in
set_option maxHeartbeats 4000000 in
theorem t_X8_noteFirstOffs_c2 (l : Launch) {v0 : Nat} {v1 : Int32} {v2 : Int32} {v3 : Nat} {M : XM} {q : XM} (H : f_X8_noteFirstOffs_c2 v0 v1 v2 v3 M = some q) : AW l m_X8_noteFirstOffs 5 0 0 (x_Rv q) 0 0 5 [some (.ref v0), some (.int v1), some (.int v2), some (.ref v3), none, none] [] M := by
  unfold f_X8_noteFirstOffs_c2 at H
  refine x_aload_n 5 0 dX8_noteFirstOffs_5 rfl rfl ?_
  obtain ⟨h4, H⟩ := x_ckp H
  refine x_getf 6 43 8 7 (.ref (x_r M v0 7)) dX8_noteFirstOffs_6 lk_367 (by decide) (by decide) rfl (fun _ => rfl) h4 ?_
  refine x_aload_n 9 0 dX8_noteFirstOffs_9 rfl rfl ?_
  refine x_getf 10 10 8 0 (.ref (x_r M v0 0)) dX8_noteFirstOffs_10 lk_360 (by decide) (by decide) rfl (fun _ => rfl) h4 ?_
  refine x_iload_n 13 1 dX8_noteFirstOffs_13 rfl rfl ?_
  refine x_aload_n 14 0 dX8_noteFirstOffs_14 rfl rfl ?_
  refine x_getf 15 32 8 5 (.ref (x_r M v0 5)) dX8_noteFirstOffs_15 lk_365 (by decide) (by decide) rfl (fun _ => rfl) h4 ?_
  refine x_iload_n 18 2 dX8_noteFirstOffs_18 rfl rfl ?_
  obtain ⟨h5, H⟩ := x_ckp H
  refine x_aald4 19 dX8_noteFirstOffs_19 h5 ?_
  refine x_aload_n 20 0 dX8_noteFirstOffs_20 rfl rfl ?_
  refine x_getf 21 32 8 5 (.ref (x_r M v0 5)) dX8_noteFirstOffs_21 lk_365 (by decide) (by decide) rfl (fun _ => rfl) h4 ?_
  refine x_iload_n 24 2 dX8_noteFirstOffs_24 rfl rfl ?_
  refine x_aald4 25 dX8_noteFirstOffs_25 h5 ?_
  obtain ⟨h6, H⟩ := x_ckp H
  refine x_getf 26 276 6 2 (.int (x_i M (x_r M (x_r M v0 5) v2.toNatClampNeg) 2)) dX8_noteFirstOffs_26 lk_348 (by decide) (by decide) rfl (fun _ => rfl) h6 ?_
  obtain ⟨h7, H⟩ := x_ckp H
  obtain ⟨M8, e10, H⟩ := x_bv_of H
  refine x_callV 29 220 7 [(.ref (x_r M v0 0)), (.int v1), (.ref (x_r M (x_r M v0 5) v2.toNatClampNeg)), (.int (x_i M (x_r M (x_r M v0 5) v2.toNatClampNeg) 2))] [] dX8_noteFirstOffs_29 (ct_X7_begin l e10) lk_747 lk_748 lk_749 (by decide) h7 lk_89 lk_750 ⟨cn_X7_begin, (by decide), by decide⟩ rfl (Nat.le_of_ble_eq_true rfl) (Nat.le_of_ble_eq_true rfl) (Nat.le_of_ble_eq_true rfl) (x_rv ?_)
  exact x_wk (le_s (le_n (le_n (le_s (le_s (le_s le_0)))))) (t_X8_noteFirstOffs_c29 l H)

def f_X8_noteFirstOffs (v0 : Nat) (v1 : Int32) (v2 : Int32) (v3 : Nat) (M : XM) : Option XM :=
  x_bv (f_J7_fill_53178 v3 (-1 : Int32) M) (f_X8_noteFirstOffs_c2 v0 v1 v2 v3)
set_option maxRecDepth 20000 in
set_option maxHeartbeats 4000000 in
theorem t_X8_noteFirstOffs (l : Launch) {v0 : Nat} {v1 : Int32} {v2 : Int32} {v3 : Nat} {M : XM} {q : XM} (H : f_X8_noteFirstOffs v0 v1 v2 v3 M = some q) : AW l m_X8_noteFirstOffs 5 0 0 (x_Rv q) 0 0 0 [some (.ref v0), some (.int v1), some (.int v2), some (.ref v3), none, none] [] M := by
  unfold f_X8_noteFirstOffs at H
  refine x_aload_n 0 3 dX8_noteFirstOffs_0 rfl rfl ?_
  refine x_iconst 1 (-1 : Int32) dX8_noteFirstOffs_1 (by decide) ?_
  obtain ⟨M1, e3, H⟩ := x_bv_of H
  refine x_callS 2 359 [(.ref v3), (.int (-1 : Int32))] [] dX8_noteFirstOffs_2 (ct_J7_fill_53178 l e3) lk_900 lk_791 lk_95 lk_792 ⟨cn_J7_fill_53178, (by decide), by decide⟩ rfl (Nat.le_of_ble_eq_true rfl) (Nat.le_of_ble_eq_true rfl) (Nat.le_of_ble_eq_true rfl) (x_rv ?_)
  exact t_X8_noteFirstOffs_c2 l H

theorem ct_X8_noteFirstOffs (l : Launch) {v0 : Nat} {v1 : Int32} {v2 : Int32} {v3 : Nat} {M : XM} {q : XM} (H : f_X8_noteFirstOffs v0 v1 v2 v3 M = some q) : Ct l m_X8_noteFirstOffs 5 0 0 [(.ref v0), (.int v1), (.int v2), (.ref v3)] M (x_Rv q) := x_met l m_X8_noteFirstOffs 5 0 0 [(.ref v0), (.int v1), (.int v2), (.ref v3)] M (x_Rv q) _ rfl rfl (Nat.le_of_ble_eq_true rfl) (t_X8_noteFirstOffs l H)
theorem lk_899 : Cond.code yX8_noteFirstOffs cX8_noteFirstOffs 6 none ∈ x_TB := x_tb (k := 899) (by decide +kernel) rfl
theorem lk_896 : Cond.methodLink RX8 279 yX8_noteFirstOffs ∈ x_TB := x_tb (k := 896) (by decide +kernel) rfl
theorem lk_28 : Cond.selects RX8 yX8_noteFirstOffs yX8_noteFirstOffs ∈ x_TB := x_tb (k := 28) (by decide +kernel) rfl
theorem lk_898 : Cond.instanceMethod yX8_noteFirstOffs ∈ x_TB := x_tb (k := 898) (by decide +kernel) rfl
abbrev m_X8_parted : XU := (yX8_parted, cX8_parted, 8, (some .int))
theorem cn_X8_parted : m_X8_parted.1.cls ≠ "java/lang/invoke/MethodHandle" ∧ m_X8_parted.1.cls ≠ "java/lang/invoke/VarHandle" ∧ (parseMethodDescriptor m_X8_parted.1.desc).map (fun q => q.parameters.length) = some 5 := by decide +kernel
def bd_X8_parted_142 (κ142 : Nat → Int32 → Int32 → XM → Option (Int32 × XM)) (v0 : Nat) (v5 : Int32) (v7 : Int32) (M : XM) : Option (Int32 × XM) :=
  if x_tag M v0 = 8 + 10 then (if x_tag M (x_r M v0 0) = 4 + 10 then (if (x_i M (x_r M v0 0) 2) < v7 then (some ((-1 : Int32), M)) else (if x_at M (x_r M v0 11) 1 v7 = true then (if x_at M (x_r M v0 12) 1 v7 = true then (if (x_i M (x_r M v0 11) v7.toNatClampNeg) = (x_i M (x_r M v0 12) v7.toNatClampNeg) then (κ142 v0 v5 (v7 + v5) M) else (some (v7, M))) else none) else none)) else none) else none
set_option maxRecDepth 20000 in
set_option maxHeartbeats 4000000 in
theorem tb_X8_parted_142 (l : Launch) {κ142 : Nat → Int32 → Int32 → XM → Option (Int32 × XM)} {v0 : Nat} {v5 : Int32} {v7 : Int32} {M : XM} {q : Int32 × XM} (hκ142 : ∀ (v0 : Nat) (v5 : Int32) (v7 : Int32) (M : XM), κ142 v0 v5 v7 M = some q → AW l m_X8_parted 6 0 0 (x_Ri q) 0 0 142 [some (.ref v0), none, none, none, none, some (.int v5), none, some (.int v7)] [] M) (H : bd_X8_parted_142 κ142 v0 v5 v7 M = some q) : AW l m_X8_parted 6 0 0 (x_Ri q) 0 0 142 [some (.ref v0), none, none, none, none, some (.int v5), none, some (.int v7)] [] M := by
  unfold bd_X8_parted_142 at H
  refine x_iload 142 7 dX8_parted_142 rfl ?_
  refine x_aload_n 144 0 dX8_parted_144 rfl rfl ?_
  obtain ⟨h25, H⟩ := x_ckp H
  refine x_getf 145 10 8 0 (.ref (x_r M v0 0)) dX8_parted_145 lk_360 (by decide) (by decide) rfl (fun _ => rfl) h25 ?_
  obtain ⟨h26, H⟩ := x_ckp H
  refine x_getf 148 190 4 2 (.int (x_i M (x_r M v0 0) 2)) dX8_parted_148 lk_166 (by decide) (by decide) rfl (fun _ => rfl) h26 ?_
  refine x_icmp_gt 151 184 dX8_parted_151 (by decide) (fun c27 => ?_) (fun c27 => ?_)
  · replace H := x_ifp c27 H
    refine x_iconst 184 (-1 : Int32) dX8_parted_184 (by decide) ?_
    cases H
    exact x_iret 185 dX8_parted_185 .int rfl rfl (Nat.le_of_ble_eq_true rfl) (Nat.le_of_ble_eq_true rfl) ⟨rfl, rfl⟩
  · replace H := x_ifn c27 H
    refine x_aload_n 154 0 dX8_parted_154 rfl rfl ?_
    refine x_getf 155 68 8 11 (.ref (x_r M v0 11)) dX8_parted_155 lk_371 (by decide) (by decide) rfl (fun _ => rfl) h25 ?_
    refine x_iload 158 7 dX8_parted_158 rfl ?_
    obtain ⟨h28, H⟩ := x_ckp H
    refine x_iald 160 dX8_parted_160 h28 ?_
    refine x_aload_n 161 0 dX8_parted_161 rfl rfl ?_
    refine x_getf 162 71 8 12 (.ref (x_r M v0 12)) dX8_parted_162 lk_372 (by decide) (by decide) rfl (fun _ => rfl) h25 ?_
    refine x_iload 165 7 dX8_parted_165 rfl ?_
    obtain ⟨h29, H⟩ := x_ckp H
    refine x_iald 167 dX8_parted_167 h29 ?_
    refine x_icmp_eq 168 174 dX8_parted_168 (by decide) (fun c30 => ?_) (fun c30 => ?_)
    · replace H := x_ifp c30 H
      refine x_iload 174 7 dX8_parted_174 rfl ?_
      refine x_iload 176 5 dX8_parted_176 rfl ?_
      refine x_iadd 178 dX8_parted_178 ?_
      refine x_istore 179 7 [some (.ref v0), none, none, none, none, some (.int v5), none, some (.int (v7 + v5))] dX8_parted_179 rfl (Nat.le_of_ble_eq_true rfl) rfl ?_
      refine x_goto 181 142 dX8_parted_181 (by decide) ?_
      exact hκ142 _ _ _ _ H
    · replace H := x_ifn c30 H
      refine x_iload 171 7 dX8_parted_171 rfl ?_
      cases H
      exact x_iret 173 dX8_parted_173 .int rfl rfl (Nat.le_of_ble_eq_true rfl) (Nat.le_of_ble_eq_true rfl) ⟨rfl, rfl⟩

def lp_X8_parted_142 (n : Nat) : Nat → Int32 → Int32 → XM → Option (Int32 × XM) := x_rec (fun _ _ _ _ => none) (bd_X8_parted_142) n
theorem t_X8_parted_142 (l : Launch) {q : Int32 × XM} : ∀ (n : Nat) (v0 : Nat) (v5 : Int32) (v7 : Int32) (M : XM), lp_X8_parted_142 n v0 v5 v7 M = some q → AW l m_X8_parted 6 0 0 (x_Ri q) 0 0 142 [some (.ref v0), none, none, none, none, some (.int v5), none, some (.int v7)] [] M := by
  intro n
  induction n with
  | zero => intro v0 v5 v7 M H; cases H
  | succ n ih => intro v0 v5 v7 M H; exact tb_X8_parted_142 l ih H
def f_X8_parted_c135 (v0 : Nat) (v5 : Int32) (M : XM) : Option (Int32 × XM) :=
  lp_X8_parted_142 x_fuel v0 v5 v5 M
set_option maxRecDepth 20000 in
set_option maxHeartbeats 4000000 in
theorem t_X8_parted_c135 (l : Launch) {v0 : Nat} {v5 : Int32} {M : XM} {q : Int32 × XM} (H : f_X8_parted_c135 v0 v5 M = some q) : AW l m_X8_parted 6 0 0 (x_Ri q) 0 0 138 [some (.ref v0), none, none, none, none, some (.int v5), none, none] [] M := by
  unfold f_X8_parted_c135 at H
  refine x_iload 138 5 dX8_parted_138 rfl ?_
  refine x_istore 140 7 [some (.ref v0), none, none, none, none, some (.int v5), none, some (.int v5)] dX8_parted_140 rfl (Nat.le_of_ble_eq_true rfl) rfl ?_
  exact t_X8_parted_142 l _ _ _ _ _ H

def f_X8_parted_c124 (v0 : Nat) (v2 : Int32) (v4 : Int32) (v5 : Int32) (M : XM) : Option (Int32 × XM) :=
  if x_tag M v0 = 8 + 10 then (x_bv (f_X8_noteFirstOffs v0 v2 v4 (x_r M v0 12) M) (f_X8_parted_c135 v0 v5)) else none
set_option maxRecDepth 20000 in
set_option maxHeartbeats 4000000 in
theorem t_X8_parted_c124 (l : Launch) {v0 : Nat} {v2 : Int32} {v4 : Int32} {v5 : Int32} {M : XM} {q : Int32 × XM} (H : f_X8_parted_c124 v0 v2 v4 v5 M = some q) : AW l m_X8_parted 6 0 0 (x_Ri q) 0 0 127 [some (.ref v0), none, some (.int v2), none, some (.int v4), some (.int v5), none, none] [] M := by
  unfold f_X8_parted_c124 at H
  refine x_aload_n 127 0 dX8_parted_127 rfl rfl ?_
  refine x_iload_n 128 2 dX8_parted_128 rfl rfl ?_
  refine x_iload 129 4 dX8_parted_129 rfl ?_
  refine x_aload_n 131 0 dX8_parted_131 rfl rfl ?_
  obtain ⟨h21, H⟩ := x_ckp H
  refine x_getf 132 71 8 12 (.ref (x_r M v0 12)) dX8_parted_132 lk_372 (by decide) (by decide) rfl (fun _ => rfl) h21 ?_
  obtain ⟨M22, e24, H⟩ := x_bv_of H
  refine x_callV 135 279 8 [(.int v2), (.int v4), (.ref (x_r M v0 12))] [] dX8_parted_135 (ct_X8_noteFirstOffs l e24) lk_896 lk_898 lk_28 (by decide) h21 lk_85 lk_899 ⟨cn_X8_noteFirstOffs, (by decide), by decide⟩ rfl (Nat.le_of_ble_eq_true rfl) (Nat.le_of_ble_eq_true rfl) (Nat.le_of_ble_eq_true rfl) (x_rv ?_)
  exact x_wk (le_s (le_s (le_n (le_s (le_n (le_s (le_s (le_s le_0)))))))) (t_X8_parted_c135 l H)

def f_X8_parted_c110 (s0 : Int32) (M : XM) : Option (Int32 × XM) :=
  some ((s0 - (10 : Int32)), M)
set_option maxRecDepth 20000 in
set_option maxHeartbeats 4000000 in
theorem t_X8_parted_c110 (l : Launch) {s0 : Int32} {M : XM} {q : Int32 × XM} (H : f_X8_parted_c110 s0 M = some q) : AW l m_X8_parted 6 0 0 (x_Ri q) 0 0 113 [none, none, none, none, none, none, none, none] [(.int s0)] M := by
  unfold f_X8_parted_c110 at H
  refine x_bipush 113 (10 : Int32) dX8_parted_113 (by decide) ?_
  refine x_isub 115 dX8_parted_115 ?_
  cases H
  exact x_iret 116 dX8_parted_116 .int rfl rfl (Nat.le_of_ble_eq_true rfl) (Nat.le_of_ble_eq_true rfl) ⟨rfl, rfl⟩

def f_X8_parted_102 (v0 : Nat) (v1 : Int32) (v2 : Int32) (v3 : Int32) (v4 : Int32) (v5 : Int32) (v6 : Int32) (M : XM) : Option (Int32 × XM) :=
  if v6 = 0 then (if x_tag M v0 = 8 + 10 then (x_bv (f_X8_noteFirstOffs v0 v1 v3 (x_r M v0 11) M) (f_X8_parted_c124 v0 v2 v4 v5)) else none) else (if x_tag M v0 = 8 + 10 then (x_bd (f_X8_refuse v0 v6 M) f_X8_parted_c110) else none)
set_option maxRecDepth 20000 in
set_option maxHeartbeats 4000000 in
theorem t_X8_parted_102 (l : Launch) {v0 : Nat} {v1 : Int32} {v2 : Int32} {v3 : Int32} {v4 : Int32} {v5 : Int32} {v6 : Int32} {M : XM} {q : Int32 × XM} (H : f_X8_parted_102 v0 v1 v2 v3 v4 v5 v6 M = some q) : AW l m_X8_parted 6 0 0 (x_Ri q) 0 0 102 [some (.ref v0), some (.int v1), some (.int v2), some (.int v3), some (.int v4), some (.int v5), some (.int v6), none] [] M := by
  unfold f_X8_parted_102 at H
  refine x_iload 102 6 dX8_parted_102 rfl ?_
  refine x_if_eq 104 117 dX8_parted_104 (by decide) (fun c16 => ?_) (fun c16 => ?_)
  · replace H := x_ifp c16 H
    refine x_aload_n 117 0 dX8_parted_117 rfl rfl ?_
    refine x_iload_n 118 1 dX8_parted_118 rfl rfl ?_
    refine x_iload_n 119 3 dX8_parted_119 rfl rfl ?_
    refine x_aload_n 120 0 dX8_parted_120 rfl rfl ?_
    obtain ⟨h17, H⟩ := x_ckp H
    refine x_getf 121 68 8 11 (.ref (x_r M v0 11)) dX8_parted_121 lk_371 (by decide) (by decide) rfl (fun _ => rfl) h17 ?_
    obtain ⟨M18, e20, H⟩ := x_bv_of H
    refine x_callV 124 279 8 [(.int v1), (.int v3), (.ref (x_r M v0 11))] [] dX8_parted_124 (ct_X8_noteFirstOffs l e20) lk_896 lk_898 lk_28 (by decide) h17 lk_85 lk_899 ⟨cn_X8_noteFirstOffs, (by decide), by decide⟩ rfl (Nat.le_of_ble_eq_true rfl) (Nat.le_of_ble_eq_true rfl) (Nat.le_of_ble_eq_true rfl) (x_rv ?_)
    exact x_wk (le_s (le_n (le_s (le_n (le_s (le_s (le_n (le_s le_0)))))))) (t_X8_parted_c124 l H)
  · replace H := x_ifn c16 H
    refine x_aload_n 107 0 dX8_parted_107 rfl rfl ?_
    refine x_iload 108 6 dX8_parted_108 rfl ?_
    obtain ⟨h31, H⟩ := x_ckp H
    obtain ⟨r33, M32, e34, H⟩ := x_bd_of H
    refine x_callV 110 86 8 [(.int v6)] [] dX8_parted_110 (ct_X8_refuse l e34) lk_410 lk_412 lk_0 (by decide) h31 lk_85 lk_413 ⟨cn_X8_refuse, (by decide), by decide⟩ rfl (Nat.le_of_ble_eq_true rfl) (Nat.le_of_ble_eq_true rfl) (Nat.le_of_ble_eq_true rfl) (x_ri ?_)
    exact x_wk (le_n (le_n (le_n (le_n (le_n (le_n (le_n (le_s le_0)))))))) (t_X8_parted_c110 l H)

def f_X8_parted_98 (v0 : Nat) (v1 : Int32) (v2 : Int32) (v3 : Int32) (v4 : Int32) (v5 : Int32) (M : XM) : Option (Int32 × XM) :=
  f_X8_parted_102 v0 v1 v2 v3 v4 v5 (-6 : Int32) M
set_option maxRecDepth 20000 in
set_option maxHeartbeats 4000000 in
theorem t_X8_parted_98 (l : Launch) {v0 : Nat} {v1 : Int32} {v2 : Int32} {v3 : Int32} {v4 : Int32} {v5 : Int32} {M : XM} {q : Int32 × XM} (H : f_X8_parted_98 v0 v1 v2 v3 v4 v5 M = some q) : AW l m_X8_parted 6 0 0 (x_Ri q) 0 0 98 [some (.ref v0), some (.int v1), some (.int v2), some (.int v3), some (.int v4), some (.int v5), none, none] [] M := by
  unfold f_X8_parted_98 at H
  refine x_bipush 98 (-6 : Int32) dX8_parted_98 (by decide) ?_
  refine x_istore 100 6 [some (.ref v0), some (.int v1), some (.int v2), some (.int v3), some (.int v4), some (.int v5), some (.int (-6 : Int32)), none] dX8_parted_100 rfl (Nat.le_of_ble_eq_true rfl) rfl ?_
  exact t_X8_parted_102 l H

def f_X8_parted_c92 (v0 : Nat) (v1 : Int32) (v2 : Int32) (v3 : Int32) (v4 : Int32) (v5 : Int32) (v6 : Int32) (s0 : Int32) (M : XM) : Option (Int32 × XM) :=
  if s0 = 0 then (f_X8_parted_98 v0 v1 v2 v3 v4 v5 M) else (f_X8_parted_102 v0 v1 v2 v3 v4 v5 v6 M)
set_option maxRecDepth 20000 in
set_option maxHeartbeats 4000000 in
theorem t_X8_parted_c92 (l : Launch) {v0 : Nat} {v1 : Int32} {v2 : Int32} {v3 : Int32} {v4 : Int32} {v5 : Int32} {v6 : Int32} {s0 : Int32} {M : XM} {q : Int32 × XM} (H : f_X8_parted_c92 v0 v1 v2 v3 v4 v5 v6 s0 M = some q) : AW l m_X8_parted 6 0 0 (x_Ri q) 0 0 95 [some (.ref v0), some (.int v1), some (.int v2), some (.int v3), some (.int v4), some (.int v5), some (.int v6), none] [(.int s0)] M := by
  unfold f_X8_parted_c92 at H
  refine x_if_ne 95 102 dX8_parted_95 (by decide) (fun c41 => ?_) (fun c41 => ?_)
  · replace H := x_ifn c41 H
    exact t_X8_parted_102 l H
  · replace H := x_ifp c41 H
    exact x_wk (le_s (le_s (le_s (le_s (le_s (le_s (le_n (le_s le_0)))))))) (t_X8_parted_98 l H)

def f_X8_parted_c73 (v0 : Nat) (v1 : Int32) (v2 : Int32) (v3 : Int32) (v4 : Int32) (v5 : Int32) (v6 : Int32) (s0 : Int32) (M : XM) : Option (Int32 × XM) :=
  if s0 = 0 then (f_X8_parted_98 v0 v1 v2 v3 v4 v5 M) else (if x_tag M v0 = 8 + 10 then (if x_at M (x_r M v0 5) 4 v4 = true then (if x_tag M (x_r M (x_r M v0 5) v4.toNatClampNeg) = 6 + 10 then (x_bd (f_X8_areSeconds v0 v4 (x_i M (x_r M (x_r M v0 5) v4.toNatClampNeg) 2) M) (f_X8_parted_c92 v0 v1 v2 v3 v4 v5 v6)) else none) else none) else none)
set_option maxRecDepth 20000 in
set_option maxHeartbeats 4000000 in
theorem t_X8_parted_c73 (l : Launch) {v0 : Nat} {v1 : Int32} {v2 : Int32} {v3 : Int32} {v4 : Int32} {v5 : Int32} {v6 : Int32} {s0 : Int32} {M : XM} {q : Int32 × XM} (H : f_X8_parted_c73 v0 v1 v2 v3 v4 v5 v6 s0 M = some q) : AW l m_X8_parted 6 0 0 (x_Ri q) 0 0 76 [some (.ref v0), some (.int v1), some (.int v2), some (.int v3), some (.int v4), some (.int v5), some (.int v6), none] [(.int s0)] M := by
  unfold f_X8_parted_c73 at H
  refine x_if_eq 76 98 dX8_parted_76 (by decide) (fun c15 => ?_) (fun c15 => ?_)
  · replace H := x_ifp c15 H
    exact x_wk (le_s (le_s (le_s (le_s (le_s (le_s (le_n (le_s le_0)))))))) (t_X8_parted_98 l H)
  · replace H := x_ifn c15 H
    refine x_aload_n 79 0 dX8_parted_79 rfl rfl ?_
    refine x_iload 80 4 dX8_parted_80 rfl ?_
    refine x_aload_n 82 0 dX8_parted_82 rfl rfl ?_
    obtain ⟨h35, H⟩ := x_ckp H
    refine x_getf 83 32 8 5 (.ref (x_r M v0 5)) dX8_parted_83 lk_365 (by decide) (by decide) rfl (fun _ => rfl) h35 ?_
    refine x_iload 86 4 dX8_parted_86 rfl ?_
    obtain ⟨h36, H⟩ := x_ckp H
    refine x_aald4 88 dX8_parted_88 h36 ?_
    obtain ⟨h37, H⟩ := x_ckp H
    refine x_getf 89 276 6 2 (.int (x_i M (x_r M (x_r M v0 5) v4.toNatClampNeg) 2)) dX8_parted_89 lk_348 (by decide) (by decide) rfl (fun _ => rfl) h37 ?_
    obtain ⟨r39, M38, e40, H⟩ := x_bd_of H
    refine x_callV 92 217 8 [(.int v4), (.int (x_i M (x_r M (x_r M v0 5) v4.toNatClampNeg) 2))] [] dX8_parted_92 (ct_X8_areSeconds l e40) lk_742 lk_744 lk_16 (by decide) h35 lk_85 lk_745 ⟨cn_X8_areSeconds, (by decide), by decide⟩ rfl (Nat.le_of_ble_eq_true rfl) (Nat.le_of_ble_eq_true rfl) (Nat.le_of_ble_eq_true rfl) (x_ri ?_)
    exact t_X8_parted_c92 l H

def f_X8_parted_57 (v0 : Nat) (v1 : Int32) (v2 : Int32) (v3 : Int32) (v4 : Int32) (v5 : Int32) (v6 : Int32) (M : XM) : Option (Int32 × XM) :=
  if v6 = 0 then (if x_tag M v0 = 8 + 10 then (if x_at M (x_r M v0 5) 4 v3 = true then (if x_tag M (x_r M (x_r M v0 5) v3.toNatClampNeg) = 6 + 10 then (x_bd (f_X8_areSeconds v0 v3 (x_i M (x_r M (x_r M v0 5) v3.toNatClampNeg) 2) M) (f_X8_parted_c73 v0 v1 v2 v3 v4 v5 v6)) else none) else none) else none) else (f_X8_parted_102 v0 v1 v2 v3 v4 v5 v6 M)
set_option maxRecDepth 20000 in
set_option maxHeartbeats 4000000 in
theorem t_X8_parted_57 (l : Launch) {v0 : Nat} {v1 : Int32} {v2 : Int32} {v3 : Int32} {v4 : Int32} {v5 : Int32} {v6 : Int32} {M : XM} {q : Int32 × XM} (H : f_X8_parted_57 v0 v1 v2 v3 v4 v5 v6 M = some q) : AW l m_X8_parted 6 0 0 (x_Ri q) 0 0 57 [some (.ref v0), some (.int v1), some (.int v2), some (.int v3), some (.int v4), some (.int v5), some (.int v6), none] [] M := by
  unfold f_X8_parted_57 at H
  refine x_iload 57 6 dX8_parted_57 rfl ?_
  refine x_if_ne 59 102 dX8_parted_59 (by decide) (fun c8 => ?_) (fun c8 => ?_)
  · replace H := x_ifn c8 H
    exact t_X8_parted_102 l H
  · replace H := x_ifp c8 H
    refine x_aload_n 62 0 dX8_parted_62 rfl rfl ?_
    refine x_iload_n 63 3 dX8_parted_63 rfl rfl ?_
    refine x_aload_n 64 0 dX8_parted_64 rfl rfl ?_
    obtain ⟨h9, H⟩ := x_ckp H
    refine x_getf 65 32 8 5 (.ref (x_r M v0 5)) dX8_parted_65 lk_365 (by decide) (by decide) rfl (fun _ => rfl) h9 ?_
    refine x_iload_n 68 3 dX8_parted_68 rfl rfl ?_
    obtain ⟨h10, H⟩ := x_ckp H
    refine x_aald4 69 dX8_parted_69 h10 ?_
    obtain ⟨h11, H⟩ := x_ckp H
    refine x_getf 70 276 6 2 (.int (x_i M (x_r M (x_r M v0 5) v3.toNatClampNeg) 2)) dX8_parted_70 lk_348 (by decide) (by decide) rfl (fun _ => rfl) h11 ?_
    obtain ⟨r13, M12, e14, H⟩ := x_bd_of H
    refine x_callV 73 217 8 [(.int v3), (.int (x_i M (x_r M (x_r M v0 5) v3.toNatClampNeg) 2))] [] dX8_parted_73 (ct_X8_areSeconds l e14) lk_742 lk_744 lk_16 (by decide) h9 lk_85 lk_745 ⟨cn_X8_areSeconds, (by decide), by decide⟩ rfl (Nat.le_of_ble_eq_true rfl) (Nat.le_of_ble_eq_true rfl) (Nat.le_of_ble_eq_true rfl) (x_ri ?_)
    exact t_X8_parted_c73 l H

def f_X8_parted_53 (v0 : Nat) (v1 : Int32) (v2 : Int32) (v3 : Int32) (v4 : Int32) (v5 : Int32) (M : XM) : Option (Int32 × XM) :=
  f_X8_parted_57 v0 v1 v2 v3 v4 v5 (-6 : Int32) M
set_option maxRecDepth 20000 in
set_option maxHeartbeats 4000000 in
theorem t_X8_parted_53 (l : Launch) {v0 : Nat} {v1 : Int32} {v2 : Int32} {v3 : Int32} {v4 : Int32} {v5 : Int32} {M : XM} {q : Int32 × XM} (H : f_X8_parted_53 v0 v1 v2 v3 v4 v5 M = some q) : AW l m_X8_parted 6 0 0 (x_Ri q) 0 0 53 [some (.ref v0), some (.int v1), some (.int v2), some (.int v3), some (.int v4), some (.int v5), none, none] [] M := by
  unfold f_X8_parted_53 at H
  refine x_bipush 53 (-6 : Int32) dX8_parted_53 (by decide) ?_
  refine x_istore 55 6 [some (.ref v0), some (.int v1), some (.int v2), some (.int v3), some (.int v4), some (.int v5), some (.int (-6 : Int32)), none] dX8_parted_55 rfl (Nat.le_of_ble_eq_true rfl) rfl ?_
  exact t_X8_parted_57 l H

def f_X8_parted_27 (v0 : Nat) (v1 : Int32) (v2 : Int32) (v3 : Int32) (v4 : Int32) (v5 : Int32) (s0 : Int32) (M : XM) : Option (Int32 × XM) :=
  if s0 = 0 then (if v1 = v2 then (f_X8_parted_53 v0 v1 v2 v3 v4 v5 M) else (if v5 < (1 : Int32) then (f_X8_parted_53 v0 v1 v2 v3 v4 v5 M) else (if v5 ≤ (200 : Int32) then (f_X8_parted_57 v0 v1 v2 v3 v4 v5 s0 M) else (f_X8_parted_53 v0 v1 v2 v3 v4 v5 M)))) else (f_X8_parted_57 v0 v1 v2 v3 v4 v5 s0 M)
set_option maxRecDepth 20000 in
set_option maxHeartbeats 4000000 in
theorem t_X8_parted_27 (l : Launch) {v0 : Nat} {v1 : Int32} {v2 : Int32} {v3 : Int32} {v4 : Int32} {v5 : Int32} {s0 : Int32} {M : XM} {q : Int32 × XM} (H : f_X8_parted_27 v0 v1 v2 v3 v4 v5 s0 M = some q) : AW l m_X8_parted 6 0 0 (x_Ri q) 0 0 27 [some (.ref v0), some (.int v1), some (.int v2), some (.int v3), some (.int v4), some (.int v5), none, none] [(.int s0)] M := by
  unfold f_X8_parted_27 at H
  refine x_istore 27 6 [some (.ref v0), some (.int v1), some (.int v2), some (.int v3), some (.int v4), some (.int v5), some (.int s0), none] dX8_parted_27 rfl (Nat.le_of_ble_eq_true rfl) rfl ?_
  refine x_iload 29 6 dX8_parted_29 rfl ?_
  refine x_if_ne 31 57 dX8_parted_31 (by decide) (fun c6 => ?_) (fun c6 => ?_)
  · replace H := x_ifn c6 H
    exact t_X8_parted_57 l H
  · replace H := x_ifp c6 H
    refine x_iload_n 34 1 dX8_parted_34 rfl rfl ?_
    refine x_iload_n 35 2 dX8_parted_35 rfl rfl ?_
    refine x_icmp_eq 36 53 dX8_parted_36 (by decide) (fun c7 => ?_) (fun c7 => ?_)
    · replace H := x_ifp c7 H
      exact x_wk (le_s (le_s (le_s (le_s (le_s (le_s (le_n (le_s le_0)))))))) (t_X8_parted_53 l H)
    · replace H := x_ifn c7 H
      refine x_iload 39 5 dX8_parted_39 rfl ?_
      refine x_iconst 41 (1 : Int32) dX8_parted_41 (by decide) ?_
      refine x_icmp_lt 42 53 dX8_parted_42 (by decide) (fun c42 => ?_) (fun c42 => ?_)
      · replace H := x_ifp c42 H
        exact x_wk (le_s (le_s (le_s (le_s (le_s (le_s (le_n (le_s le_0)))))))) (t_X8_parted_53 l H)
      · replace H := x_ifn c42 H
        refine x_iload 45 5 dX8_parted_45 rfl ?_
        refine x_sipush 47 (200 : Int32) dX8_parted_47 (by decide) ?_
        refine x_icmp_le 50 57 dX8_parted_50 (by decide) (fun c43 => ?_) (fun c43 => ?_)
        · replace H := x_ifp c43 H
          exact t_X8_parted_57 l H
        · replace H := x_ifn c43 H
          exact x_wk (le_s (le_s (le_s (le_s (le_s (le_s (le_n (le_s le_0)))))))) (t_X8_parted_53 l H)

def f_X8_parted_26 (v0 : Nat) (v1 : Int32) (v2 : Int32) (v3 : Int32) (v4 : Int32) (v5 : Int32) (M : XM) : Option (Int32 × XM) :=
  f_X8_parted_27 v0 v1 v2 v3 v4 v5 (-1 : Int32) M
set_option maxRecDepth 20000 in
set_option maxHeartbeats 4000000 in
theorem t_X8_parted_26 (l : Launch) {v0 : Nat} {v1 : Int32} {v2 : Int32} {v3 : Int32} {v4 : Int32} {v5 : Int32} {M : XM} {q : Int32 × XM} (H : f_X8_parted_26 v0 v1 v2 v3 v4 v5 M = some q) : AW l m_X8_parted 6 0 0 (x_Ri q) 0 0 26 [some (.ref v0), some (.int v1), some (.int v2), some (.int v3), some (.int v4), some (.int v5), none, none] [] M := by
  unfold f_X8_parted_26 at H
  refine x_iconst 26 (-1 : Int32) dX8_parted_26 (by decide) ?_
  exact t_X8_parted_27 l H

def f_X8_parted_c20 (v0 : Nat) (v1 : Int32) (v2 : Int32) (v3 : Int32) (v4 : Int32) (v5 : Int32) (s0 : Int32) (M : XM) : Option (Int32 × XM) :=
  f_X8_parted_27 v0 v1 v2 v3 v4 v5 s0 M
set_option maxRecDepth 20000 in
set_option maxHeartbeats 4000000 in
theorem t_X8_parted_c20 (l : Launch) {v0 : Nat} {v1 : Int32} {v2 : Int32} {v3 : Int32} {v4 : Int32} {v5 : Int32} {s0 : Int32} {M : XM} {q : Int32 × XM} (H : f_X8_parted_c20 v0 v1 v2 v3 v4 v5 s0 M = some q) : AW l m_X8_parted 6 0 0 (x_Ri q) 0 0 23 [some (.ref v0), some (.int v1), some (.int v2), some (.int v3), some (.int v4), some (.int v5), none, none] [(.int s0)] M := by
  unfold f_X8_parted_c20 at H
  refine x_goto 23 27 dX8_parted_23 (by decide) ?_
  exact t_X8_parted_27 l H

def f_X8_parted_c10 (v0 : Nat) (v1 : Int32) (v2 : Int32) (v3 : Int32) (v4 : Int32) (v5 : Int32) (s0 : Int32) (M : XM) : Option (Int32 × XM) :=
  if s0 = 0 then (f_X8_parted_26 v0 v1 v2 v3 v4 v5 M) else (if x_tag M v0 = 8 + 10 then (x_bd (f_X8_rowsRefusal v0 v3 v4 M) (f_X8_parted_c20 v0 v1 v2 v3 v4 v5)) else none)
set_option maxRecDepth 20000 in
set_option maxHeartbeats 4000000 in
theorem t_X8_parted_c10 (l : Launch) {v0 : Nat} {v1 : Int32} {v2 : Int32} {v3 : Int32} {v4 : Int32} {v5 : Int32} {s0 : Int32} {M : XM} {q : Int32 × XM} (H : f_X8_parted_c10 v0 v1 v2 v3 v4 v5 s0 M = some q) : AW l m_X8_parted 6 0 0 (x_Ri q) 0 0 13 [some (.ref v0), some (.int v1), some (.int v2), some (.int v3), some (.int v4), some (.int v5), none, none] [(.int s0)] M := by
  unfold f_X8_parted_c10 at H
  refine x_if_eq 13 26 dX8_parted_13 (by decide) (fun c48 => ?_) (fun c48 => ?_)
  · replace H := x_ifp c48 H
    exact t_X8_parted_26 l H
  · replace H := x_ifn c48 H
    refine x_aload_n 16 0 dX8_parted_16 rfl rfl ?_
    refine x_iload_n 17 3 dX8_parted_17 rfl rfl ?_
    refine x_iload 18 4 dX8_parted_18 rfl ?_
    obtain ⟨h49, H⟩ := x_ckp H
    obtain ⟨r51, M50, e52, H⟩ := x_bd_of H
    refine x_callV 20 104 8 [(.int v3), (.int v4)] [] dX8_parted_20 (ct_X8_rowsRefusal l e52) lk_429 lk_431 lk_2 (by decide) h49 lk_85 lk_432 ⟨cn_X8_rowsRefusal, (by decide), by decide⟩ rfl (Nat.le_of_ble_eq_true rfl) (Nat.le_of_ble_eq_true rfl) (Nat.le_of_ble_eq_true rfl) (x_ri ?_)
    exact t_X8_parted_c20 l H

def f_X8_parted_c2 (v0 : Nat) (v1 : Int32) (v2 : Int32) (v3 : Int32) (v4 : Int32) (v5 : Int32) (s0 : Int32) (M : XM) : Option (Int32 × XM) :=
  if s0 = 0 then (f_X8_parted_26 v0 v1 v2 v3 v4 v5 M) else (if x_tag M v0 = 8 + 10 then (x_bd (f_X8_isCounter v0 v2 M) (f_X8_parted_c10 v0 v1 v2 v3 v4 v5)) else none)
set_option maxRecDepth 20000 in
set_option maxHeartbeats 4000000 in
theorem t_X8_parted_c2 (l : Launch) {v0 : Nat} {v1 : Int32} {v2 : Int32} {v3 : Int32} {v4 : Int32} {v5 : Int32} {s0 : Int32} {M : XM} {q : Int32 × XM} (H : f_X8_parted_c2 v0 v1 v2 v3 v4 v5 s0 M = some q) : AW l m_X8_parted 6 0 0 (x_Ri q) 0 0 5 [some (.ref v0), some (.int v1), some (.int v2), some (.int v3), some (.int v4), some (.int v5), none, none] [(.int s0)] M := by
  unfold f_X8_parted_c2 at H
  refine x_if_eq 5 26 dX8_parted_5 (by decide) (fun c5 => ?_) (fun c5 => ?_)
  · replace H := x_ifp c5 H
    exact t_X8_parted_26 l H
  · replace H := x_ifn c5 H
    refine x_aload_n 8 0 dX8_parted_8 rfl rfl ?_
    refine x_iload_n 9 2 dX8_parted_9 rfl rfl ?_
    obtain ⟨h44, H⟩ := x_ckp H
    obtain ⟨r46, M45, e47, H⟩ := x_bd_of H
    refine x_callV 10 123 8 [(.int v2)] [] dX8_parted_10 (ct_X8_isCounter l e47) lk_478 lk_480 lk_3 (by decide) h44 lk_85 lk_481 ⟨cn_X8_isCounter, (by decide), by decide⟩ rfl (Nat.le_of_ble_eq_true rfl) (Nat.le_of_ble_eq_true rfl) (Nat.le_of_ble_eq_true rfl) (x_ri ?_)
    exact t_X8_parted_c10 l H

def f_X8_parted (v0 : Nat) (v1 : Int32) (v2 : Int32) (v3 : Int32) (v4 : Int32) (v5 : Int32) (M : XM) : Option (Int32 × XM) :=
  if x_tag M v0 = 8 + 10 then (x_bd (f_X8_isCounter v0 v1 M) (f_X8_parted_c2 v0 v1 v2 v3 v4 v5)) else none
set_option maxRecDepth 20000 in
set_option maxHeartbeats 4000000 in
theorem t_X8_parted (l : Launch) {v0 : Nat} {v1 : Int32} {v2 : Int32} {v3 : Int32} {v4 : Int32} {v5 : Int32} {M : XM} {q : Int32 × XM} (H : f_X8_parted v0 v1 v2 v3 v4 v5 M = some q) : AW l m_X8_parted 6 0 0 (x_Ri q) 0 0 0 [some (.ref v0), some (.int v1), some (.int v2), some (.int v3), some (.int v4), some (.int v5), none, none] [] M := by
  unfold f_X8_parted at H
  refine x_aload_n 0 0 dX8_parted_0 rfl rfl ?_
  refine x_iload_n 1 1 dX8_parted_1 rfl rfl ?_
  obtain ⟨h1, H⟩ := x_ckp H
  obtain ⟨r3, M2, e4, H⟩ := x_bd_of H
  refine x_callV 2 123 8 [(.int v1)] [] dX8_parted_2 (ct_X8_isCounter l e4) lk_478 lk_480 lk_3 (by decide) h1 lk_85 lk_481 ⟨cn_X8_isCounter, (by decide), by decide⟩ rfl (Nat.le_of_ble_eq_true rfl) (Nat.le_of_ble_eq_true rfl) (Nat.le_of_ble_eq_true rfl) (x_ri ?_)
  exact t_X8_parted_c2 l H

theorem ct_X8_parted (l : Launch) {v0 : Nat} {v1 : Int32} {v2 : Int32} {v3 : Int32} {v4 : Int32} {v5 : Int32} {M : XM} {q : Int32 × XM} (H : f_X8_parted v0 v1 v2 v3 v4 v5 M = some q) : Ct l m_X8_parted 6 0 0 [(.ref v0), (.int v1), (.int v2), (.int v3), (.int v4), (.int v5)] M (x_Ri q) := x_met l m_X8_parted 6 0 0 [(.ref v0), (.int v1), (.int v2), (.int v3), (.int v4), (.int v5)] M (x_Ri q) _ rfl rfl (Nat.le_of_ble_eq_true rfl) (t_X8_parted l H)
theorem lk_905 : Cond.methodLink RX8 283 yX4_hasRoomForTally ∈ x_TB := x_tb (k := 905) (by decide +kernel) rfl
theorem lk_906 : Cond.methodLink RX8 286 yX4_addTally ∈ x_TB := x_tb (k := 906) (by decide +kernel) rfl
abbrev m_X8_tally : XU := (yX8_tally, cX8_tally, 2, (some .int))
theorem cn_X8_tally : m_X8_tally.1.cls ≠ "java/lang/invoke/MethodHandle" ∧ m_X8_tally.1.cls ≠ "java/lang/invoke/VarHandle" ∧ (parseMethodDescriptor m_X8_tally.1.desc).map (fun q => q.parameters.length) = some 1 := by decide +kernel
def f_X8_tally_11 (v0 : Nat) (M : XM) : Option (Int32 × XM) :=
  if x_tag M v0 = 8 + 10 then (x_bd (f_X8_refuse v0 (-6 : Int32) M) (fun r4 M3 => some (r4, M3))) else none
set_option maxRecDepth 20000 in
set_option maxHeartbeats 4000000 in
theorem t_X8_tally_11 (l : Launch) {v0 : Nat} {M : XM} {q : Int32 × XM} (H : f_X8_tally_11 v0 M = some q) : AW l m_X8_tally 2 0 0 (x_Ri q) 0 0 11 [some (.ref v0), none] [] M := by
  unfold f_X8_tally_11 at H
  refine x_aload_n 11 0 dX8_tally_11 rfl rfl ?_
  refine x_bipush 12 (-6 : Int32) dX8_tally_12 (by decide) ?_
  obtain ⟨h2, H⟩ := x_ckp H
  obtain ⟨r4, M3, e5, H⟩ := x_bd_of H
  refine x_callV 14 86 8 [(.int (-6 : Int32))] [] dX8_tally_14 (ct_X8_refuse l e5) lk_410 lk_412 lk_0 (by decide) h2 lk_85 lk_413 ⟨cn_X8_refuse, (by decide), by decide⟩ rfl (Nat.le_of_ble_eq_true rfl) (Nat.le_of_ble_eq_true rfl) (Nat.le_of_ble_eq_true rfl) (x_ri ?_)
  cases H
  exact x_iret 17 dX8_tally_17 .int rfl rfl (Nat.le_of_ble_eq_true rfl) (Nat.le_of_ble_eq_true rfl) ⟨rfl, rfl⟩

def f_X8_tally_c22 (v0 : Nat) (v1 : Int32) (s0 : Int32) (M : XM) : Option (Int32 × XM) :=
  if s0 = 0 then (if x_tag M v0 = 8 + 10 then (x_bd (f_X8_refuse v0 (-7 : Int32) M) (fun r15 M14 => some (r15, M14))) else none) else (if x_tag M v0 = 8 + 10 then (if x_tag M (x_r M v0 0) = 4 + 10 then (x_bd (f_X4_addTally (x_r M v0 0) v1 M) (fun r20 M19 => some (r20, M19))) else none) else none)
set_option maxRecDepth 20000 in
set_option maxHeartbeats 4000000 in
theorem t_X8_tally_c22 (l : Launch) {v0 : Nat} {v1 : Int32} {s0 : Int32} {M : XM} {q : Int32 × XM} (H : f_X8_tally_c22 v0 v1 s0 M = some q) : AW l m_X8_tally 2 0 0 (x_Ri q) 0 0 25 [some (.ref v0), some (.int v1)] [(.int s0)] M := by
  unfold f_X8_tally_c22 at H
  refine x_if_ne 25 35 dX8_tally_25 (by decide) (fun c12 => ?_) (fun c12 => ?_)
  · replace H := x_ifn c12 H
    refine x_aload_n 35 0 dX8_tally_35 rfl rfl ?_
    obtain ⟨h17, H⟩ := x_ckp H
    refine x_getf 36 10 8 0 (.ref (x_r M v0 0)) dX8_tally_36 lk_360 (by decide) (by decide) rfl (fun _ => rfl) h17 ?_
    refine x_iload_n 39 1 dX8_tally_39 rfl rfl ?_
    obtain ⟨h18, H⟩ := x_ckp H
    obtain ⟨r20, M19, e21, H⟩ := x_bd_of H
    refine x_callV 40 286 4 [(.int v1)] [] dX8_tally_40 (ct_X4_addTally l e21) lk_906 lk_690 lk_691 (by decide) h18 lk_86 lk_692 ⟨cn_X4_addTally, (by decide), by decide⟩ rfl (Nat.le_of_ble_eq_true rfl) (Nat.le_of_ble_eq_true rfl) (Nat.le_of_ble_eq_true rfl) (x_ri ?_)
    cases H
    exact x_iret 43 dX8_tally_43 .int rfl rfl (Nat.le_of_ble_eq_true rfl) (Nat.le_of_ble_eq_true rfl) ⟨rfl, rfl⟩
  · replace H := x_ifp c12 H
    refine x_aload_n 28 0 dX8_tally_28 rfl rfl ?_
    refine x_bipush 29 (-7 : Int32) dX8_tally_29 (by decide) ?_
    obtain ⟨h13, H⟩ := x_ckp H
    obtain ⟨r15, M14, e16, H⟩ := x_bd_of H
    refine x_callV 31 86 8 [(.int (-7 : Int32))] [] dX8_tally_31 (ct_X8_refuse l e16) lk_410 lk_412 lk_0 (by decide) h13 lk_85 lk_413 ⟨cn_X8_refuse, (by decide), by decide⟩ rfl (Nat.le_of_ble_eq_true rfl) (Nat.le_of_ble_eq_true rfl) (Nat.le_of_ble_eq_true rfl) (x_ri ?_)
    cases H
    exact x_iret 34 dX8_tally_34 .int rfl rfl (Nat.le_of_ble_eq_true rfl) (Nat.le_of_ble_eq_true rfl) ⟨rfl, rfl⟩

def f_X8_tally (v0 : Nat) (v1 : Int32) (M : XM) : Option (Int32 × XM) :=
  if v1 < 0 then (f_X8_tally_11 v0 M) else (if v1 ≤ (9999 : Int32) then (if x_tag M v0 = 8 + 10 then (if x_tag M (x_r M v0 0) = 4 + 10 then (x_bd (f_X4_hasRoomForTally (x_r M v0 0) M) (f_X8_tally_c22 v0 v1)) else none) else none) else (f_X8_tally_11 v0 M))
set_option maxRecDepth 20000 in
set_option maxHeartbeats 4000000 in
theorem t_X8_tally (l : Launch) {v0 : Nat} {v1 : Int32} {M : XM} {q : Int32 × XM} (H : f_X8_tally v0 v1 M = some q) : AW l m_X8_tally 2 0 0 (x_Ri q) 0 0 0 [some (.ref v0), some (.int v1)] [] M := by
  unfold f_X8_tally at H
  refine x_iload_n 0 1 dX8_tally_0 rfl rfl ?_
  refine x_if_lt 1 11 dX8_tally_1 (by decide) (fun c1 => ?_) (fun c1 => ?_)
  · replace H := x_ifp c1 H
    exact x_wk (le_s (le_n le_0)) (t_X8_tally_11 l H)
  · replace H := x_ifn c1 H
    refine x_iload_n 4 1 dX8_tally_4 rfl rfl ?_
    refine x_sipush 5 (9999 : Int32) dX8_tally_5 (by decide) ?_
    refine x_icmp_le 8 18 dX8_tally_8 (by decide) (fun c6 => ?_) (fun c6 => ?_)
    · replace H := x_ifp c6 H
      refine x_aload_n 18 0 dX8_tally_18 rfl rfl ?_
      obtain ⟨h7, H⟩ := x_ckp H
      refine x_getf 19 10 8 0 (.ref (x_r M v0 0)) dX8_tally_19 lk_360 (by decide) (by decide) rfl (fun _ => rfl) h7 ?_
      obtain ⟨h8, H⟩ := x_ckp H
      obtain ⟨r10, M9, e11, H⟩ := x_bd_of H
      refine x_callV 22 283 4 [] [] dX8_tally_22 (ct_X4_hasRoomForTally l e11) lk_905 lk_668 lk_669 (by decide) h8 lk_86 lk_670 ⟨cn_X4_hasRoomForTally, (by decide), by decide⟩ rfl (Nat.le_of_ble_eq_true rfl) (Nat.le_of_ble_eq_true rfl) (Nat.le_of_ble_eq_true rfl) (x_ri ?_)
      exact t_X8_tally_c22 l H
    · replace H := x_ifn c6 H
      exact x_wk (le_s (le_n le_0)) (t_X8_tally_11 l H)

theorem ct_X8_tally (l : Launch) {v0 : Nat} {v1 : Int32} {M : XM} {q : Int32 × XM} (H : f_X8_tally v0 v1 M = some q) : Ct l m_X8_tally 2 0 0 [(.ref v0), (.int v1)] M (x_Ri q) := x_met l m_X8_tally 2 0 0 [(.ref v0), (.int v1)] M (x_Ri q) _ rfl rfl (Nat.le_of_ble_eq_true rfl) (t_X8_tally l H)
theorem lk_914 : Cond.code yX4_leastTrue cX4_leastTrue 5 (some .int) ∈ x_TB := x_tb (k := 914) (by decide +kernel) rfl
theorem lk_911 : Cond.methodLink RX8 289 yX4_leastTrue ∈ x_TB := x_tb (k := 911) (by decide +kernel) rfl
theorem lk_913 : Cond.selects RX4 yX4_leastTrue yX4_leastTrue ∈ x_TB := x_tb (k := 913) (by decide +kernel) rfl
theorem lk_912 : Cond.instanceMethod yX4_leastTrue ∈ x_TB := x_tb (k := 912) (by decide +kernel) rfl
theorem lk_922 : Cond.code yX4_liar cX4_liar 3 (some .int) ∈ x_TB := x_tb (k := 922) (by decide +kernel) rfl
theorem lk_919 : Cond.methodLink RX8 292 yX4_liar ∈ x_TB := x_tb (k := 919) (by decide +kernel) rfl
theorem lk_921 : Cond.selects RX4 yX4_liar yX4_liar ∈ x_TB := x_tb (k := 921) (by decide +kernel) rfl
theorem lk_920 : Cond.instanceMethod yX4_liar ∈ x_TB := x_tb (k := 920) (by decide +kernel) rfl
theorem lk_926 : Cond.code yX4_spread cX4_spread 4 (some .int) ∈ x_TB := x_tb (k := 926) (by decide +kernel) rfl
theorem lk_923 : Cond.methodLink RX8 295 yX4_spread ∈ x_TB := x_tb (k := 923) (by decide +kernel) rfl
theorem lk_925 : Cond.selects RX4 yX4_spread yX4_spread ∈ x_TB := x_tb (k := 925) (by decide +kernel) rfl
theorem lk_924 : Cond.instanceMethod yX4_spread ∈ x_TB := x_tb (k := 924) (by decide +kernel) rfl
theorem lk_180 : Cond.fieldLink RX8 298 RX4 "tallyCount" "I" ∈ x_TB := x_tb (k := 180) (by decide +kernel) rfl
theorem lk_178 : Cond.fieldLink RX8 301 RX4 "numbers" "[I" ∈ x_TB := x_tb (k := 178) (by decide +kernel) rfl
abbrev m_X8_tallies : XU := (yX8_tallies, cX8_tallies, 2, (some .int))
theorem cn_X8_tallies : m_X8_tallies.1.cls ≠ "java/lang/invoke/MethodHandle" ∧ m_X8_tallies.1.cls ≠ "java/lang/invoke/VarHandle" ∧ (parseMethodDescriptor m_X8_tallies.1.desc).map (fun q => q.parameters.length) = some 1 := by decide +kernel
def f_X8_tallies_c87 (s0 : Int32) (M : XM) : Option (Int32 × XM) :=
  some ((s0 - (10 : Int32)), M)
set_option maxRecDepth 20000 in
set_option maxHeartbeats 4000000 in
theorem t_X8_tallies_c87 (l : Launch) {s0 : Int32} {M : XM} {q : Int32 × XM} (H : f_X8_tallies_c87 s0 M = some q) : AW l m_X8_tallies 3 0 0 (x_Ri q) 0 0 90 [none, none] [(.int s0)] M := by
  unfold f_X8_tallies_c87 at H
  refine x_bipush 90 (10 : Int32) dX8_tallies_90 (by decide) ?_
  refine x_isub 92 dX8_tallies_92 ?_
  cases H
  exact x_iret 93 dX8_tallies_93 .int rfl rfl (Nat.le_of_ble_eq_true rfl) (Nat.le_of_ble_eq_true rfl) ⟨rfl, rfl⟩

def f_X8_tallies_84 (v0 : Nat) (M : XM) : Option (Int32 × XM) :=
  if x_tag M v0 = 8 + 10 then (x_bd (f_X8_refuse v0 (-5 : Int32) M) f_X8_tallies_c87) else none
set_option maxRecDepth 20000 in
set_option maxHeartbeats 4000000 in
theorem t_X8_tallies_84 (l : Launch) {v0 : Nat} {M : XM} {q : Int32 × XM} (H : f_X8_tallies_84 v0 M = some q) : AW l m_X8_tallies 3 0 0 (x_Ri q) 0 0 84 [some (.ref v0), none] [] M := by
  unfold f_X8_tallies_84 at H
  refine x_aload_n 84 0 dX8_tallies_84 rfl rfl ?_
  refine x_bipush 85 (-5 : Int32) dX8_tallies_85 (by decide) ?_
  obtain ⟨h23, H⟩ := x_ckp H
  obtain ⟨r25, M24, e26, H⟩ := x_bd_of H
  refine x_callV 87 86 8 [(.int (-5 : Int32))] [] dX8_tallies_87 (ct_X8_refuse l e26) lk_410 lk_412 lk_0 (by decide) h23 lk_85 lk_413 ⟨cn_X8_refuse, (by decide), by decide⟩ rfl (Nat.le_of_ble_eq_true rfl) (Nat.le_of_ble_eq_true rfl) (Nat.le_of_ble_eq_true rfl) (x_ri ?_)
  exact x_wk (le_n (le_s le_0)) (t_X8_tallies_c87 l H)

def f_X8_tallies (v0 : Nat) (v1 : Int32) (M : XM) : Option (Int32 × XM) :=
  if v1 = (0 : Int32) then (if x_tag M v0 = 8 + 10 then (if x_tag M (x_r M v0 0) = 4 + 10 then (x_bd (f_X4_leastTrue (x_r M v0 0) M) (fun r5 M4 => some (r5, M4))) else none) else none) else if v1 = (1 : Int32) then (if x_tag M v0 = 8 + 10 then (if x_tag M (x_r M v0 0) = 4 + 10 then (x_bd (f_X4_liar (x_r M v0 0) M) (fun r11 M10 => some (r11, M10))) else none) else none) else if v1 = (2 : Int32) then (if x_tag M v0 = 8 + 10 then (if x_tag M (x_r M v0 0) = 4 + 10 then (x_bd (f_X4_spread (x_r M v0 0) M) (fun r17 M16 => some (r17, M16))) else none) else none) else if v1 = (3 : Int32) then (if x_tag M v0 = 8 + 10 then (if x_tag M (x_r M v0 0) = 4 + 10 then (some ((x_i M (x_r M v0 0) 7), M)) else none) else none) else if v1 < (10 : Int32) then (f_X8_tallies_84 v0 M) else (if x_tag M v0 = 8 + 10 then (if x_tag M (x_r M v0 0) = 4 + 10 then (if (v1 - (10 : Int32)) < (x_i M (x_r M v0 0) 7) then (if x_at M (x_r M (x_r M v0 0) 6) 1 (v1 - (10 : Int32)) = true then (some ((x_i M (x_r M (x_r M v0 0) 6) (v1 - (10 : Int32)).toNatClampNeg), M)) else none) else (f_X8_tallies_84 v0 M)) else none) else none)
set_option maxRecDepth 20000 in
set_option maxHeartbeats 4000000 in
theorem t_X8_tallies (l : Launch) {v0 : Nat} {v1 : Int32} {M : XM} {q : Int32 × XM} (H : f_X8_tallies v0 v1 M = some q) : AW l m_X8_tallies 3 0 0 (x_Ri q) 0 0 0 [some (.ref v0), some (.int v1)] [] M := by
  unfold f_X8_tallies at H
  refine x_iload_n 0 1 dX8_tallies_0 rfl rfl ?_
  by_cases c1 : v1 = (0 : Int32)
  · replace H := x_ifp c1 H
    refine x_tableIn (off := 31) 1 32 dX8_tallies_1 (by rw [c1]; decide) (by rw [c1]; decide) (by rw [c1]; rfl) (by decide) ?_
    refine x_aload_n 32 0 dX8_tallies_32 rfl rfl ?_
    obtain ⟨h2, H⟩ := x_ckp H
    refine x_getf 33 10 8 0 (.ref (x_r M v0 0)) dX8_tallies_33 lk_360 (by decide) (by decide) rfl (fun _ => rfl) h2 ?_
    obtain ⟨h3, H⟩ := x_ckp H
    obtain ⟨r5, M4, e6, H⟩ := x_bd_of H
    refine x_callV 36 289 4 [] [] dX8_tallies_36 (ct_X4_leastTrue l e6) lk_911 lk_912 lk_913 (by decide) h3 lk_86 lk_914 ⟨cn_X4_leastTrue, (by decide), by decide⟩ rfl (Nat.le_of_ble_eq_true rfl) (Nat.le_of_ble_eq_true rfl) (Nat.le_of_ble_eq_true rfl) (x_ri ?_)
    cases H
    exact x_iret 39 dX8_tallies_39 .int rfl rfl (Nat.le_of_ble_eq_true rfl) (Nat.le_of_ble_eq_true rfl) ⟨rfl, rfl⟩
  · replace H := x_ifn c1 H
    by_cases c7 : v1 = (1 : Int32)
    · replace H := x_ifp c7 H
      refine x_tableIn (off := 39) 1 40 dX8_tallies_1 (by rw [c7]; decide) (by rw [c7]; decide) (by rw [c7]; rfl) (by decide) ?_
      refine x_aload_n 40 0 dX8_tallies_40 rfl rfl ?_
      obtain ⟨h8, H⟩ := x_ckp H
      refine x_getf 41 10 8 0 (.ref (x_r M v0 0)) dX8_tallies_41 lk_360 (by decide) (by decide) rfl (fun _ => rfl) h8 ?_
      obtain ⟨h9, H⟩ := x_ckp H
      obtain ⟨r11, M10, e12, H⟩ := x_bd_of H
      refine x_callV 44 292 4 [] [] dX8_tallies_44 (ct_X4_liar l e12) lk_919 lk_920 lk_921 (by decide) h9 lk_86 lk_922 ⟨cn_X4_liar, (by decide), by decide⟩ rfl (Nat.le_of_ble_eq_true rfl) (Nat.le_of_ble_eq_true rfl) (Nat.le_of_ble_eq_true rfl) (x_ri ?_)
      cases H
      exact x_iret 47 dX8_tallies_47 .int rfl rfl (Nat.le_of_ble_eq_true rfl) (Nat.le_of_ble_eq_true rfl) ⟨rfl, rfl⟩
    · replace H := x_ifn c7 H
      by_cases c13 : v1 = (2 : Int32)
      · replace H := x_ifp c13 H
        refine x_tableIn (off := 47) 1 48 dX8_tallies_1 (by rw [c13]; decide) (by rw [c13]; decide) (by rw [c13]; rfl) (by decide) ?_
        refine x_aload_n 48 0 dX8_tallies_48 rfl rfl ?_
        obtain ⟨h14, H⟩ := x_ckp H
        refine x_getf 49 10 8 0 (.ref (x_r M v0 0)) dX8_tallies_49 lk_360 (by decide) (by decide) rfl (fun _ => rfl) h14 ?_
        obtain ⟨h15, H⟩ := x_ckp H
        obtain ⟨r17, M16, e18, H⟩ := x_bd_of H
        refine x_callV 52 295 4 [] [] dX8_tallies_52 (ct_X4_spread l e18) lk_923 lk_924 lk_925 (by decide) h15 lk_86 lk_926 ⟨cn_X4_spread, (by decide), by decide⟩ rfl (Nat.le_of_ble_eq_true rfl) (Nat.le_of_ble_eq_true rfl) (Nat.le_of_ble_eq_true rfl) (x_ri ?_)
        cases H
        exact x_iret 55 dX8_tallies_55 .int rfl rfl (Nat.le_of_ble_eq_true rfl) (Nat.le_of_ble_eq_true rfl) ⟨rfl, rfl⟩
      · replace H := x_ifn c13 H
        by_cases c19 : v1 = (3 : Int32)
        · replace H := x_ifp c19 H
          refine x_tableIn (off := 55) 1 56 dX8_tallies_1 (by rw [c19]; decide) (by rw [c19]; decide) (by rw [c19]; rfl) (by decide) ?_
          refine x_aload_n 56 0 dX8_tallies_56 rfl rfl ?_
          obtain ⟨h20, H⟩ := x_ckp H
          refine x_getf 57 10 8 0 (.ref (x_r M v0 0)) dX8_tallies_57 lk_360 (by decide) (by decide) rfl (fun _ => rfl) h20 ?_
          obtain ⟨h21, H⟩ := x_ckp H
          refine x_getf 60 298 4 7 (.int (x_i M (x_r M v0 0) 7)) dX8_tallies_60 lk_180 (by decide) (by decide) rfl (fun _ => rfl) h21 ?_
          cases H
          exact x_iret 63 dX8_tallies_63 .int rfl rfl (Nat.le_of_ble_eq_true rfl) (Nat.le_of_ble_eq_true rfl) ⟨rfl, rfl⟩
        · replace H := x_ifn c19 H
          refine x_tableOut 1 64 dX8_tallies_1 (by have n0 := lv_neT (a := 0) c1 (by decide); have n1 := lv_neT (a := 1) c7 (by decide); have n2 := lv_neT (a := 2) c13 (by decide); have n3 := lv_neT (a := 3) c19 (by decide); omega) (by decide) ?_
          refine x_iload_n 64 1 dX8_tallies_64 rfl rfl ?_
          refine x_bipush 65 (10 : Int32) dX8_tallies_65 (by decide) ?_
          refine x_icmp_lt 67 84 dX8_tallies_67 (by decide) (fun c22 => ?_) (fun c22 => ?_)
          · replace H := x_ifp c22 H
            exact x_wk (le_s (le_n le_0)) (t_X8_tallies_84 l H)
          · replace H := x_ifn c22 H
            refine x_iload_n 70 1 dX8_tallies_70 rfl rfl ?_
            refine x_bipush 71 (10 : Int32) dX8_tallies_71 (by decide) ?_
            refine x_isub 73 dX8_tallies_73 ?_
            refine x_aload_n 74 0 dX8_tallies_74 rfl rfl ?_
            obtain ⟨h27, H⟩ := x_ckp H
            refine x_getf 75 10 8 0 (.ref (x_r M v0 0)) dX8_tallies_75 lk_360 (by decide) (by decide) rfl (fun _ => rfl) h27 ?_
            obtain ⟨h28, H⟩ := x_ckp H
            refine x_getf 78 298 4 7 (.int (x_i M (x_r M v0 0) 7)) dX8_tallies_78 lk_180 (by decide) (by decide) rfl (fun _ => rfl) h28 ?_
            refine x_icmp_lt 81 94 dX8_tallies_81 (by decide) (fun c29 => ?_) (fun c29 => ?_)
            · replace H := x_ifp c29 H
              refine x_aload_n 94 0 dX8_tallies_94 rfl rfl ?_
              refine x_getf 95 10 8 0 (.ref (x_r M v0 0)) dX8_tallies_95 lk_360 (by decide) (by decide) rfl (fun _ => rfl) h27 ?_
              refine x_getf 98 301 4 6 (.ref (x_r M (x_r M v0 0) 6)) dX8_tallies_98 lk_178 (by decide) (by decide) rfl (fun _ => rfl) h28 ?_
              refine x_iload_n 101 1 dX8_tallies_101 rfl rfl ?_
              refine x_bipush 102 (10 : Int32) dX8_tallies_102 (by decide) ?_
              refine x_isub 104 dX8_tallies_104 ?_
              obtain ⟨h30, H⟩ := x_ckp H
              refine x_iald 105 dX8_tallies_105 h30 ?_
              cases H
              exact x_iret 106 dX8_tallies_106 .int rfl rfl (Nat.le_of_ble_eq_true rfl) (Nat.le_of_ble_eq_true rfl) ⟨rfl, rfl⟩
            · replace H := x_ifn c29 H
              exact x_wk (le_s (le_n le_0)) (t_X8_tallies_84 l H)

theorem ct_X8_tallies (l : Launch) {v0 : Nat} {v1 : Int32} {M : XM} {q : Int32 × XM} (H : f_X8_tallies v0 v1 M = some q) : Ct l m_X8_tallies 3 0 0 [(.ref v0), (.int v1)] M (x_Ri q) := x_met l m_X8_tallies 3 0 0 [(.ref v0), (.int v1)] M (x_Ri q) _ rfl rfl (Nat.le_of_ble_eq_true rfl) (t_X8_tallies l H)
abbrev m_X8_forget : XU := (yX8_forget, cX8_forget, 2, (some .int))
theorem cn_X8_forget : m_X8_forget.1.cls ≠ "java/lang/invoke/MethodHandle" ∧ m_X8_forget.1.cls ≠ "java/lang/invoke/VarHandle" ∧ (parseMethodDescriptor m_X8_forget.1.desc).map (fun q => q.parameters.length) = some 0 := by decide +kernel
def f_X8_forget (v0 : Nat) (M : XM) : Option (Int32 × XM) :=
  if x_tag M v0 = 8 + 10 then (if x_tag M (x_r M v0 0) = 4 + 10 then (x_lt (x_wi M (x_r M v0 0) 7 (0 : Int32)) (fun M3 => some ((x_i M (x_r M v0 0) 7), M3))) else none) else none
set_option maxRecDepth 20000 in
set_option maxHeartbeats 4000000 in
theorem t_X8_forget (l : Launch) {v0 : Nat} {M : XM} {q : Int32 × XM} (H : f_X8_forget v0 M = some q) : AW l m_X8_forget 1 0 0 (x_Ri q) 0 0 0 [some (.ref v0), none] [] M := by
  unfold f_X8_forget at H
  refine x_aload_n 0 0 dX8_forget_0 rfl rfl ?_
  obtain ⟨h1, H⟩ := x_ckp H
  refine x_getf 1 10 8 0 (.ref (x_r M v0 0)) dX8_forget_1 lk_360 (by decide) (by decide) rfl (fun _ => rfl) h1 ?_
  obtain ⟨h2, H⟩ := x_ckp H
  refine x_getf 4 298 4 7 (.int (x_i M (x_r M v0 0) 7)) dX8_forget_4 lk_180 (by decide) (by decide) rfl (fun _ => rfl) h2 ?_
  refine x_istore_n 7 1 [some (.ref v0), some (.int (x_i M (x_r M v0 0) 7))] dX8_forget_7 rfl rfl (Nat.le_of_ble_eq_true rfl) rfl ?_
  refine x_aload_n 8 0 dX8_forget_8 rfl rfl ?_
  refine x_getf 9 10 8 0 (.ref (x_r M v0 0)) dX8_forget_9 lk_360 (by decide) (by decide) rfl (fun _ => rfl) h1 ?_
  refine x_iconst 12 (0 : Int32) dX8_forget_12 (by decide) ?_
  obtain ⟨M3, w4, H⟩ := x_lt_of H
  have h5 : x_tag M3 v0 = 8 + 10 := by rw [w4]; exact h1
  have h6 : x_tag M3 (x_r M v0 0) = 4 + 10 := by rw [w4]; exact h2
  refine x_putI' 13 298 4 7 dX8_forget_13 lk_180 (by decide) (by decide) rfl (Or.inl rfl) (Or.inl rfl) h2 w4 ?_
  refine x_iload_n 16 1 dX8_forget_16 rfl rfl ?_
  cases H
  exact x_iret 17 dX8_forget_17 .int rfl rfl (Nat.le_of_ble_eq_true rfl) (Nat.le_of_ble_eq_true rfl) ⟨rfl, rfl⟩

theorem ct_X8_forget (l : Launch) {v0 : Nat} {M : XM} {q : Int32 × XM} (H : f_X8_forget v0 M = some q) : Ct l m_X8_forget 1 0 0 [(.ref v0)] M (x_Ri q) := x_met l m_X8_forget 1 0 0 [(.ref v0)] M (x_Ri q) _ rfl rfl (Nat.le_of_ble_eq_true rfl) (t_X8_forget l H)
theorem lk_936 : Cond.methodLink RX8 304 yX4_pass ∈ x_TB := x_tb (k := 936) (by decide +kernel) rfl
abbrev m_X8_knits : XU := (yX8_knits, cX8_knits, 4, (some .int))
theorem cn_X8_knits : m_X8_knits.1.cls ≠ "java/lang/invoke/MethodHandle" ∧ m_X8_knits.1.cls ≠ "java/lang/invoke/VarHandle" ∧ (parseMethodDescriptor m_X8_knits.1.desc).map (fun q => q.parameters.length) = some 2 := by decide +kernel
def f_X8_knits_25 (v0 : Nat) (M : XM) : Option (Int32 × XM) :=
  if x_tag M v0 = 8 + 10 then (x_bd (f_X8_refuse v0 (-6 : Int32) M) (fun r13 M12 => some (r13, M12))) else none
set_option maxRecDepth 20000 in
set_option maxHeartbeats 4000000 in
theorem t_X8_knits_25 (l : Launch) {v0 : Nat} {M : XM} {q : Int32 × XM} (H : f_X8_knits_25 v0 M = some q) : AW l m_X8_knits 4 0 0 (x_Ri q) 0 0 25 [some (.ref v0), none, none, none] [] M := by
  unfold f_X8_knits_25 at H
  refine x_aload_n 25 0 dX8_knits_25 rfl rfl ?_
  refine x_bipush 26 (-6 : Int32) dX8_knits_26 (by decide) ?_
  obtain ⟨h11, H⟩ := x_ckp H
  obtain ⟨r13, M12, e14, H⟩ := x_bd_of H
  refine x_callV 28 86 8 [(.int (-6 : Int32))] [] dX8_knits_28 (ct_X8_refuse l e14) lk_410 lk_412 lk_0 (by decide) h11 lk_85 lk_413 ⟨cn_X8_refuse, (by decide), by decide⟩ rfl (Nat.le_of_ble_eq_true rfl) (Nat.le_of_ble_eq_true rfl) (Nat.le_of_ble_eq_true rfl) (x_ri ?_)
  cases H
  exact x_iret 31 dX8_knits_31 .int rfl rfl (Nat.le_of_ble_eq_true rfl) (Nat.le_of_ble_eq_true rfl) ⟨rfl, rfl⟩

def f_X8_knits_c45 (κ34 : Nat → Int32 → Int32 → Int32 → XM → Option (Int32 × XM)) (v0 : Nat) (v1 : Int32) (v2 : Int32) (v3 : Int32) (M : XM) : Option (Int32 × XM) :=
  κ34 v0 v1 v2 (v3 + (1 : Int32)) M
set_option maxRecDepth 20000 in
set_option maxHeartbeats 4000000 in
theorem t_X8_knits_c45 (l : Launch) {κ34 : Nat → Int32 → Int32 → Int32 → XM → Option (Int32 × XM)} {v0 : Nat} {v1 : Int32} {v2 : Int32} {v3 : Int32} {M : XM} {q : Int32 × XM} (hκ34 : ∀ (v0 : Nat) (v1 : Int32) (v2 : Int32) (v3 : Int32) (M : XM), κ34 v0 v1 v2 v3 M = some q → AW l m_X8_knits 4 0 0 (x_Ri q) 0 0 34 [some (.ref v0), some (.int v1), some (.int v2), some (.int v3)] [] M) (H : f_X8_knits_c45 κ34 v0 v1 v2 v3 M = some q) : AW l m_X8_knits 4 0 0 (x_Ri q) 0 0 48 [some (.ref v0), some (.int v1), some (.int v2), some (.int v3)] [] M := by
  unfold f_X8_knits_c45 at H
  refine x_iinc 48 3 (v3 + (1 : Int32)) [some (.ref v0), some (.int v1), some (.int v2), some (.int (v3 + (1 : Int32)))] dX8_knits_48 rfl (congrArg (fun z : Int32 => v3 + z) (show Int32.ofInt (1) = (1 : Int32) by decide)) rfl (Nat.le_of_ble_eq_true rfl) rfl ?_
  refine x_goto 51 34 dX8_knits_51 (by decide) ?_
  exact hκ34 _ _ _ _ _ H

def bd_X8_knits_34 (κ34 : Nat → Int32 → Int32 → Int32 → XM → Option (Int32 × XM)) (v0 : Nat) (v1 : Int32) (v2 : Int32) (v3 : Int32) (M : XM) : Option (Int32 × XM) :=
  if v2 ≤ v3 then (if x_tag M v0 = 8 + 10 then (if x_tag M (x_r M v0 0) = 4 + 10 then (if x_at M (x_r M (x_r M v0 0) 0) 3 v1 = true then (if x_tag M (x_r M (x_r M (x_r M v0 0) 0) v1.toNatClampNeg) = 2 + 10 then (some ((x_i M (x_r M (x_r M (x_r M v0 0) 0) v1.toNatClampNeg) 2), M)) else none) else none) else none) else none) else (if x_tag M v0 = 8 + 10 then (if x_tag M (x_r M v0 0) = 4 + 10 then (x_bv (f_X4_pass (x_r M v0 0) v1 (0 : Int32) M) (f_X8_knits_c45 κ34 v0 v1 v2 v3)) else none) else none)
set_option maxRecDepth 20000 in
set_option maxHeartbeats 4000000 in
theorem tb_X8_knits_34 (l : Launch) {κ34 : Nat → Int32 → Int32 → Int32 → XM → Option (Int32 × XM)} {v0 : Nat} {v1 : Int32} {v2 : Int32} {v3 : Int32} {M : XM} {q : Int32 × XM} (hκ34 : ∀ (v0 : Nat) (v1 : Int32) (v2 : Int32) (v3 : Int32) (M : XM), κ34 v0 v1 v2 v3 M = some q → AW l m_X8_knits 4 0 0 (x_Ri q) 0 0 34 [some (.ref v0), some (.int v1), some (.int v2), some (.int v3)] [] M) (H : bd_X8_knits_34 κ34 v0 v1 v2 v3 M = some q) : AW l m_X8_knits 4 0 0 (x_Ri q) 0 0 34 [some (.ref v0), some (.int v1), some (.int v2), some (.int v3)] [] M := by
  unfold bd_X8_knits_34 at H
  refine x_iload_n 34 3 dX8_knits_34 rfl rfl ?_
  refine x_iload_n 35 2 dX8_knits_35 rfl rfl ?_
  refine x_icmp_ge 36 54 dX8_knits_36 (by decide) (fun c16 => ?_) (fun c16 => ?_)
  · replace H := x_ifp c16 H
    refine x_aload_n 54 0 dX8_knits_54 rfl rfl ?_
    obtain ⟨h17, H⟩ := x_ckp H
    refine x_getf 55 10 8 0 (.ref (x_r M v0 0)) dX8_knits_55 lk_360 (by decide) (by decide) rfl (fun _ => rfl) h17 ?_
    obtain ⟨h18, H⟩ := x_ckp H
    refine x_getf 58 144 4 0 (.ref (x_r M (x_r M v0 0) 0)) dX8_knits_58 lk_158 (by decide) (by decide) rfl (fun _ => rfl) h18 ?_
    refine x_iload_n 61 1 dX8_knits_61 rfl rfl ?_
    obtain ⟨h19, H⟩ := x_ckp H
    refine x_aald3 62 dX8_knits_62 h19 ?_
    obtain ⟨h20, H⟩ := x_ckp H
    refine x_getf 63 169 2 2 (.int (x_i M (x_r M (x_r M (x_r M v0 0) 0) v1.toNatClampNeg) 2)) dX8_knits_63 lk_135 (by decide) (by decide) rfl (fun _ => rfl) h20 ?_
    cases H
    exact x_iret 66 dX8_knits_66 .int rfl rfl (Nat.le_of_ble_eq_true rfl) (Nat.le_of_ble_eq_true rfl) ⟨rfl, rfl⟩
  · replace H := x_ifn c16 H
    refine x_aload_n 39 0 dX8_knits_39 rfl rfl ?_
    obtain ⟨h21, H⟩ := x_ckp H
    refine x_getf 40 10 8 0 (.ref (x_r M v0 0)) dX8_knits_40 lk_360 (by decide) (by decide) rfl (fun _ => rfl) h21 ?_
    refine x_iload_n 43 1 dX8_knits_43 rfl rfl ?_
    refine x_iconst 44 (0 : Int32) dX8_knits_44 (by decide) ?_
    obtain ⟨h22, H⟩ := x_ckp H
    obtain ⟨M23, e25, H⟩ := x_bv_of H
    refine x_callV 45 304 4 [(.int v1), (.int (0 : Int32))] [] dX8_knits_45 (ct_X4_pass l e25) lk_936 lk_702 lk_703 (by decide) h22 lk_86 lk_704 ⟨cn_X4_pass, (by decide), by decide⟩ rfl (Nat.le_of_ble_eq_true rfl) (Nat.le_of_ble_eq_true rfl) (Nat.le_of_ble_eq_true rfl) (x_rv ?_)
    exact t_X8_knits_c45 l hκ34 H

def lp_X8_knits_34 (n : Nat) : Nat → Int32 → Int32 → Int32 → XM → Option (Int32 × XM) := x_rec (fun _ _ _ _ _ => none) (bd_X8_knits_34) n
theorem t_X8_knits_34 (l : Launch) {q : Int32 × XM} : ∀ (n : Nat) (v0 : Nat) (v1 : Int32) (v2 : Int32) (v3 : Int32) (M : XM), lp_X8_knits_34 n v0 v1 v2 v3 M = some q → AW l m_X8_knits 4 0 0 (x_Ri q) 0 0 34 [some (.ref v0), some (.int v1), some (.int v2), some (.int v3)] [] M := by
  intro n
  induction n with
  | zero => intro v0 v1 v2 v3 M H; cases H
  | succ n ih => intro v0 v1 v2 v3 M H; exact tb_X8_knits_34 l ih H
def f_X8_knits_c2 (v0 : Nat) (v1 : Int32) (v2 : Int32) (s0 : Int32) (M : XM) : Option (Int32 × XM) :=
  if s0 = 0 then (if x_tag M v0 = 8 + 10 then (x_bd (f_X8_refuse v0 (-1 : Int32) M) (fun r8 M7 => some (r8, M7))) else none) else (if v2 < (1 : Int32) then (f_X8_knits_25 v0 M) else (if v2 ≤ (100 : Int32) then (lp_X8_knits_34 x_fuel v0 v1 v2 (0 : Int32) M) else (f_X8_knits_25 v0 M)))
set_option maxRecDepth 20000 in
set_option maxHeartbeats 4000000 in
theorem t_X8_knits_c2 (l : Launch) {v0 : Nat} {v1 : Int32} {v2 : Int32} {s0 : Int32} {M : XM} {q : Int32 × XM} (H : f_X8_knits_c2 v0 v1 v2 s0 M = some q) : AW l m_X8_knits 4 0 0 (x_Ri q) 0 0 5 [some (.ref v0), some (.int v1), some (.int v2), none] [(.int s0)] M := by
  unfold f_X8_knits_c2 at H
  refine x_if_ne 5 14 dX8_knits_5 (by decide) (fun c5 => ?_) (fun c5 => ?_)
  · replace H := x_ifn c5 H
    refine x_iload_n 14 2 dX8_knits_14 rfl rfl ?_
    refine x_iconst 15 (1 : Int32) dX8_knits_15 (by decide) ?_
    refine x_icmp_lt 16 25 dX8_knits_16 (by decide) (fun c10 => ?_) (fun c10 => ?_)
    · replace H := x_ifp c10 H
      exact x_wk (le_s (le_n (le_n (le_s le_0)))) (t_X8_knits_25 l H)
    · replace H := x_ifn c10 H
      refine x_iload_n 19 2 dX8_knits_19 rfl rfl ?_
      refine x_bipush 20 (100 : Int32) dX8_knits_20 (by decide) ?_
      refine x_icmp_le 22 32 dX8_knits_22 (by decide) (fun c15 => ?_) (fun c15 => ?_)
      · replace H := x_ifp c15 H
        refine x_iconst 32 (0 : Int32) dX8_knits_32 (by decide) ?_
        refine x_istore_n 33 3 [some (.ref v0), some (.int v1), some (.int v2), some (.int (0 : Int32))] dX8_knits_33 rfl rfl (Nat.le_of_ble_eq_true rfl) rfl ?_
        exact t_X8_knits_34 l _ _ _ _ _ _ H
      · replace H := x_ifn c15 H
        exact x_wk (le_s (le_n (le_n (le_s le_0)))) (t_X8_knits_25 l H)
  · replace H := x_ifp c5 H
    refine x_aload_n 8 0 dX8_knits_8 rfl rfl ?_
    refine x_iconst 9 (-1 : Int32) dX8_knits_9 (by decide) ?_
    obtain ⟨h6, H⟩ := x_ckp H
    obtain ⟨r8, M7, e9, H⟩ := x_bd_of H
    refine x_callV 10 86 8 [(.int (-1 : Int32))] [] dX8_knits_10 (ct_X8_refuse l e9) lk_410 lk_412 lk_0 (by decide) h6 lk_85 lk_413 ⟨cn_X8_refuse, (by decide), by decide⟩ rfl (Nat.le_of_ble_eq_true rfl) (Nat.le_of_ble_eq_true rfl) (Nat.le_of_ble_eq_true rfl) (x_ri ?_)
    cases H
    exact x_iret 13 dX8_knits_13 .int rfl rfl (Nat.le_of_ble_eq_true rfl) (Nat.le_of_ble_eq_true rfl) ⟨rfl, rfl⟩

def f_X8_knits (v0 : Nat) (v1 : Int32) (v2 : Int32) (M : XM) : Option (Int32 × XM) :=
  if x_tag M v0 = 8 + 10 then (x_bd (f_X8_isCounter v0 v1 M) (f_X8_knits_c2 v0 v1 v2)) else none
set_option maxRecDepth 20000 in
set_option maxHeartbeats 4000000 in
theorem t_X8_knits (l : Launch) {v0 : Nat} {v1 : Int32} {v2 : Int32} {M : XM} {q : Int32 × XM} (H : f_X8_knits v0 v1 v2 M = some q) : AW l m_X8_knits 4 0 0 (x_Ri q) 0 0 0 [some (.ref v0), some (.int v1), some (.int v2), none] [] M := by
  unfold f_X8_knits at H
  refine x_aload_n 0 0 dX8_knits_0 rfl rfl ?_
  refine x_iload_n 1 1 dX8_knits_1 rfl rfl ?_
  obtain ⟨h1, H⟩ := x_ckp H
  obtain ⟨r3, M2, e4, H⟩ := x_bd_of H
  refine x_callV 2 123 8 [(.int v1)] [] dX8_knits_2 (ct_X8_isCounter l e4) lk_478 lk_480 lk_3 (by decide) h1 lk_85 lk_481 ⟨cn_X8_isCounter, (by decide), by decide⟩ rfl (Nat.le_of_ble_eq_true rfl) (Nat.le_of_ble_eq_true rfl) (Nat.le_of_ble_eq_true rfl) (x_ri ?_)
  exact t_X8_knits_c2 l H

theorem ct_X8_knits (l : Launch) {v0 : Nat} {v1 : Int32} {v2 : Int32} {M : XM} {q : Int32 × XM} (H : f_X8_knits v0 v1 v2 M = some q) : Ct l m_X8_knits 4 0 0 [(.ref v0), (.int v1), (.int v2)] M (x_Ri q) := x_met l m_X8_knits 4 0 0 [(.ref v0), (.int v1), (.int v2)] M (x_Ri q) _ rfl rfl (Nat.le_of_ble_eq_true rfl) (t_X8_knits l H)
abbrev m_X8_asks : XU := (yX8_asks, cX8_asks, 2, (some .int))
theorem cn_X8_asks : m_X8_asks.1.cls ≠ "java/lang/invoke/MethodHandle" ∧ m_X8_asks.1.cls ≠ "java/lang/invoke/VarHandle" ∧ (parseMethodDescriptor m_X8_asks.1.desc).map (fun q => q.parameters.length) = some 1 := by decide +kernel
def f_X8_asks_c38 (v0 : Nat) (v1 : Int32) (M : XM) : Option (Int32 × XM) :=
  if x_tag M v0 = 8 + 10 then (if x_tag M (x_r M v0 0) = 4 + 10 then (if x_at M (x_r M (x_r M v0 0) 0) 3 v1 = true then (if x_tag M (x_r M (x_r M (x_r M v0 0) 0) v1.toNatClampNeg) = 2 + 10 then (some ((x_i M (x_r M (x_r M (x_r M v0 0) 0) v1.toNatClampNeg) 2), M)) else none) else none) else none) else none
set_option maxRecDepth 20000 in
set_option maxHeartbeats 4000000 in
theorem t_X8_asks_c38 (l : Launch) {v0 : Nat} {v1 : Int32} {M : XM} {q : Int32 × XM} (H : f_X8_asks_c38 v0 v1 M = some q) : AW l m_X8_asks 4 0 0 (x_Ri q) 0 0 41 [some (.ref v0), some (.int v1)] [] M := by
  unfold f_X8_asks_c38 at H
  refine x_aload_n 41 0 dX8_asks_41 rfl rfl ?_
  obtain ⟨h21, H⟩ := x_ckp H
  refine x_getf 42 10 8 0 (.ref (x_r M v0 0)) dX8_asks_42 lk_360 (by decide) (by decide) rfl (fun _ => rfl) h21 ?_
  obtain ⟨h22, H⟩ := x_ckp H
  refine x_getf 45 144 4 0 (.ref (x_r M (x_r M v0 0) 0)) dX8_asks_45 lk_158 (by decide) (by decide) rfl (fun _ => rfl) h22 ?_
  refine x_iload_n 48 1 dX8_asks_48 rfl rfl ?_
  obtain ⟨h23, H⟩ := x_ckp H
  refine x_aald3 49 dX8_asks_49 h23 ?_
  obtain ⟨h24, H⟩ := x_ckp H
  refine x_getf 50 169 2 2 (.int (x_i M (x_r M (x_r M (x_r M v0 0) 0) v1.toNatClampNeg) 2)) dX8_asks_50 lk_135 (by decide) (by decide) rfl (fun _ => rfl) h24 ?_
  cases H
  exact x_iret 53 dX8_asks_53 .int rfl rfl (Nat.le_of_ble_eq_true rfl) (Nat.le_of_ble_eq_true rfl) ⟨rfl, rfl⟩

def f_X8_asks_c19 (v0 : Nat) (v1 : Int32) (s0 : Int32) (M : XM) : Option (Int32 × XM) :=
  if s0 = 0 then (if x_tag M v0 = 8 + 10 then (if x_tag M (x_r M v0 0) = 4 + 10 then (x_bv (f_X4_pass (x_r M v0 0) v1 (1 : Int32) M) (f_X8_asks_c38 v0 v1)) else none) else none) else (if x_tag M v0 = 8 + 10 then (x_bd (f_X8_refuse v0 (-6 : Int32) M) (fun r27 M26 => some (r27, M26))) else none)
set_option maxRecDepth 20000 in
set_option maxHeartbeats 4000000 in
theorem t_X8_asks_c19 (l : Launch) {v0 : Nat} {v1 : Int32} {s0 : Int32} {M : XM} {q : Int32 × XM} (H : f_X8_asks_c19 v0 v1 s0 M = some q) : AW l m_X8_asks 4 0 0 (x_Ri q) 0 0 22 [some (.ref v0), some (.int v1)] [(.int s0)] M := by
  unfold f_X8_asks_c19 at H
  refine x_if_eq 22 32 dX8_asks_22 (by decide) (fun c15 => ?_) (fun c15 => ?_)
  · replace H := x_ifp c15 H
    refine x_aload_n 32 0 dX8_asks_32 rfl rfl ?_
    obtain ⟨h16, H⟩ := x_ckp H
    refine x_getf 33 10 8 0 (.ref (x_r M v0 0)) dX8_asks_33 lk_360 (by decide) (by decide) rfl (fun _ => rfl) h16 ?_
    refine x_iload_n 36 1 dX8_asks_36 rfl rfl ?_
    refine x_iconst 37 (1 : Int32) dX8_asks_37 (by decide) ?_
    obtain ⟨h17, H⟩ := x_ckp H
    obtain ⟨M18, e20, H⟩ := x_bv_of H
    refine x_callV 38 304 4 [(.int v1), (.int (1 : Int32))] [] dX8_asks_38 (ct_X4_pass l e20) lk_936 lk_702 lk_703 (by decide) h17 lk_86 lk_704 ⟨cn_X4_pass, (by decide), by decide⟩ rfl (Nat.le_of_ble_eq_true rfl) (Nat.le_of_ble_eq_true rfl) (Nat.le_of_ble_eq_true rfl) (x_rv ?_)
    exact t_X8_asks_c38 l H
  · replace H := x_ifn c15 H
    refine x_aload_n 25 0 dX8_asks_25 rfl rfl ?_
    refine x_bipush 26 (-6 : Int32) dX8_asks_26 (by decide) ?_
    obtain ⟨h25, H⟩ := x_ckp H
    obtain ⟨r27, M26, e28, H⟩ := x_bd_of H
    refine x_callV 28 86 8 [(.int (-6 : Int32))] [] dX8_asks_28 (ct_X8_refuse l e28) lk_410 lk_412 lk_0 (by decide) h25 lk_85 lk_413 ⟨cn_X8_refuse, (by decide), by decide⟩ rfl (Nat.le_of_ble_eq_true rfl) (Nat.le_of_ble_eq_true rfl) (Nat.le_of_ble_eq_true rfl) (x_ri ?_)
    cases H
    exact x_iret 31 dX8_asks_31 .int rfl rfl (Nat.le_of_ble_eq_true rfl) (Nat.le_of_ble_eq_true rfl) ⟨rfl, rfl⟩

def f_X8_asks_c2 (v0 : Nat) (v1 : Int32) (s0 : Int32) (M : XM) : Option (Int32 × XM) :=
  if s0 = 0 then (if x_tag M v0 = 8 + 10 then (x_bd (f_X8_refuse v0 (-1 : Int32) M) (fun r8 M7 => some (r8, M7))) else none) else (if x_tag M v0 = 8 + 10 then (if x_tag M (x_r M v0 0) = 4 + 10 then (x_bd (f_X4_isThrough (x_r M v0 0) v1 M) (f_X8_asks_c19 v0 v1)) else none) else none)
set_option maxRecDepth 20000 in
set_option maxHeartbeats 4000000 in
theorem t_X8_asks_c2 (l : Launch) {v0 : Nat} {v1 : Int32} {s0 : Int32} {M : XM} {q : Int32 × XM} (H : f_X8_asks_c2 v0 v1 s0 M = some q) : AW l m_X8_asks 4 0 0 (x_Ri q) 0 0 5 [some (.ref v0), some (.int v1)] [(.int s0)] M := by
  unfold f_X8_asks_c2 at H
  refine x_if_ne 5 14 dX8_asks_5 (by decide) (fun c5 => ?_) (fun c5 => ?_)
  · replace H := x_ifn c5 H
    refine x_aload_n 14 0 dX8_asks_14 rfl rfl ?_
    obtain ⟨h10, H⟩ := x_ckp H
    refine x_getf 15 10 8 0 (.ref (x_r M v0 0)) dX8_asks_15 lk_360 (by decide) (by decide) rfl (fun _ => rfl) h10 ?_
    refine x_iload_n 18 1 dX8_asks_18 rfl rfl ?_
    obtain ⟨h11, H⟩ := x_ckp H
    obtain ⟨r13, M12, e14, H⟩ := x_bd_of H
    refine x_callV 19 207 4 [(.int v1)] [] dX8_asks_19 (ct_X4_isThrough l e14) lk_732 lk_698 lk_699 (by decide) h11 lk_86 lk_700 ⟨cn_X4_isThrough, (by decide), by decide⟩ rfl (Nat.le_of_ble_eq_true rfl) (Nat.le_of_ble_eq_true rfl) (Nat.le_of_ble_eq_true rfl) (x_ri ?_)
    exact t_X8_asks_c19 l H
  · replace H := x_ifp c5 H
    refine x_aload_n 8 0 dX8_asks_8 rfl rfl ?_
    refine x_iconst 9 (-1 : Int32) dX8_asks_9 (by decide) ?_
    obtain ⟨h6, H⟩ := x_ckp H
    obtain ⟨r8, M7, e9, H⟩ := x_bd_of H
    refine x_callV 10 86 8 [(.int (-1 : Int32))] [] dX8_asks_10 (ct_X8_refuse l e9) lk_410 lk_412 lk_0 (by decide) h6 lk_85 lk_413 ⟨cn_X8_refuse, (by decide), by decide⟩ rfl (Nat.le_of_ble_eq_true rfl) (Nat.le_of_ble_eq_true rfl) (Nat.le_of_ble_eq_true rfl) (x_ri ?_)
    cases H
    exact x_iret 13 dX8_asks_13 .int rfl rfl (Nat.le_of_ble_eq_true rfl) (Nat.le_of_ble_eq_true rfl) ⟨rfl, rfl⟩

def f_X8_asks (v0 : Nat) (v1 : Int32) (M : XM) : Option (Int32 × XM) :=
  if x_tag M v0 = 8 + 10 then (x_bd (f_X8_isCounter v0 v1 M) (f_X8_asks_c2 v0 v1)) else none
set_option maxRecDepth 20000 in
set_option maxHeartbeats 4000000 in
theorem t_X8_asks (l : Launch) {v0 : Nat} {v1 : Int32} {M : XM} {q : Int32 × XM} (H : f_X8_asks v0 v1 M = some q) : AW l m_X8_asks 4 0 0 (x_Ri q) 0 0 0 [some (.ref v0), some (.int v1)] [] M := by
  unfold f_X8_asks at H
  refine x_aload_n 0 0 dX8_asks_0 rfl rfl ?_
  refine x_iload_n 1 1 dX8_asks_1 rfl rfl ?_
  obtain ⟨h1, H⟩ := x_ckp H
  obtain ⟨r3, M2, e4, H⟩ := x_bd_of H
  refine x_callV 2 123 8 [(.int v1)] [] dX8_asks_2 (ct_X8_isCounter l e4) lk_478 lk_480 lk_3 (by decide) h1 lk_85 lk_481 ⟨cn_X8_isCounter, (by decide), by decide⟩ rfl (Nat.le_of_ble_eq_true rfl) (Nat.le_of_ble_eq_true rfl) (Nat.le_of_ble_eq_true rfl) (x_ri ?_)
  exact t_X8_asks_c2 l H

theorem ct_X8_asks (l : Launch) {v0 : Nat} {v1 : Int32} {M : XM} {q : Int32 × XM} (H : f_X8_asks v0 v1 M = some q) : Ct l m_X8_asks 4 0 0 [(.ref v0), (.int v1)] M (x_Ri q) := x_met l m_X8_asks 4 0 0 [(.ref v0), (.int v1)] M (x_Ri q) _ rfl rfl (Nat.le_of_ble_eq_true rfl) (t_X8_asks l H)
theorem lk_945 : Cond.methodLink RX8 308 yX2_beginAgain ∈ x_TB := x_tb (k := 945) (by decide +kernel) rfl
abbrev m_X8_again : XU := (yX8_again, cX8_again, 3, (some .int))
theorem cn_X8_again : m_X8_again.1.cls ≠ "java/lang/invoke/MethodHandle" ∧ m_X8_again.1.cls ≠ "java/lang/invoke/VarHandle" ∧ (parseMethodDescriptor m_X8_again.1.desc).map (fun q => q.parameters.length) = some 1 := by decide +kernel
def f_X8_again_c2 (v0 : Nat) (v1 : Int32) (s0 : Int32) (M : XM) : Option (Int32 × XM) :=
  if s0 = 0 then (if x_tag M v0 = 8 + 10 then (x_bd (f_X8_refuse v0 (-1 : Int32) M) (fun r8 M7 => some (r8, M7))) else none) else (if x_tag M v0 = 8 + 10 then (if x_tag M (x_r M v0 0) = 4 + 10 then (if x_at M (x_r M (x_r M v0 0) 0) 3 v1 = true then (if x_tag M (x_r M (x_r M (x_r M v0 0) 0) v1.toNatClampNeg) = 2 + 10 then (x_bv (f_X2_beginAgain (x_r M (x_r M (x_r M v0 0) 0) v1.toNatClampNeg) M) (fun M14 => some ((x_i M (x_r M (x_r M (x_r M v0 0) 0) v1.toNatClampNeg) 2), M14))) else none) else none) else none) else none)
set_option maxRecDepth 20000 in
set_option maxHeartbeats 4000000 in
theorem t_X8_again_c2 (l : Launch) {v0 : Nat} {v1 : Int32} {s0 : Int32} {M : XM} {q : Int32 × XM} (H : f_X8_again_c2 v0 v1 s0 M = some q) : AW l m_X8_again 2 0 0 (x_Ri q) 0 0 5 [some (.ref v0), some (.int v1), none] [(.int s0)] M := by
  unfold f_X8_again_c2 at H
  refine x_if_ne 5 14 dX8_again_5 (by decide) (fun c5 => ?_) (fun c5 => ?_)
  · replace H := x_ifn c5 H
    refine x_aload_n 14 0 dX8_again_14 rfl rfl ?_
    obtain ⟨h10, H⟩ := x_ckp H
    refine x_getf 15 10 8 0 (.ref (x_r M v0 0)) dX8_again_15 lk_360 (by decide) (by decide) rfl (fun _ => rfl) h10 ?_
    obtain ⟨h11, H⟩ := x_ckp H
    refine x_getf 18 144 4 0 (.ref (x_r M (x_r M v0 0) 0)) dX8_again_18 lk_158 (by decide) (by decide) rfl (fun _ => rfl) h11 ?_
    refine x_iload_n 21 1 dX8_again_21 rfl rfl ?_
    obtain ⟨h12, H⟩ := x_ckp H
    refine x_aald3 22 dX8_again_22 h12 ?_
    obtain ⟨h13, H⟩ := x_ckp H
    refine x_getf 23 169 2 2 (.int (x_i M (x_r M (x_r M (x_r M v0 0) 0) v1.toNatClampNeg) 2)) dX8_again_23 lk_135 (by decide) (by decide) rfl (fun _ => rfl) h13 ?_
    refine x_istore_n 26 2 [some (.ref v0), some (.int v1), some (.int (x_i M (x_r M (x_r M (x_r M v0 0) 0) v1.toNatClampNeg) 2))] dX8_again_26 rfl rfl (Nat.le_of_ble_eq_true rfl) rfl ?_
    refine x_aload_n 27 0 dX8_again_27 rfl rfl ?_
    refine x_getf 28 10 8 0 (.ref (x_r M v0 0)) dX8_again_28 lk_360 (by decide) (by decide) rfl (fun _ => rfl) h10 ?_
    refine x_getf 31 144 4 0 (.ref (x_r M (x_r M v0 0) 0)) dX8_again_31 lk_158 (by decide) (by decide) rfl (fun _ => rfl) h11 ?_
    refine x_iload_n 34 1 dX8_again_34 rfl rfl ?_
    refine x_aald3 35 dX8_again_35 h12 ?_
    obtain ⟨M14, e16, H⟩ := x_bv_of H
    refine x_callV 36 308 2 [] [] dX8_again_36 (ct_X2_beginAgain l e16) lk_945 lk_534 lk_535 (by decide) h13 lk_87 lk_536 ⟨cn_X2_beginAgain, (by decide), by decide⟩ rfl (Nat.le_of_ble_eq_true rfl) (Nat.le_of_ble_eq_true rfl) (Nat.le_of_ble_eq_true rfl) (x_rv ?_)
    refine x_iload_n 39 2 dX8_again_39 rfl rfl ?_
    cases H
    exact x_iret 40 dX8_again_40 .int rfl rfl (Nat.le_of_ble_eq_true rfl) (Nat.le_of_ble_eq_true rfl) ⟨rfl, rfl⟩
  · replace H := x_ifp c5 H
    refine x_aload_n 8 0 dX8_again_8 rfl rfl ?_
    refine x_iconst 9 (-1 : Int32) dX8_again_9 (by decide) ?_
    obtain ⟨h6, H⟩ := x_ckp H
    obtain ⟨r8, M7, e9, H⟩ := x_bd_of H
    refine x_callV 10 86 8 [(.int (-1 : Int32))] [] dX8_again_10 (ct_X8_refuse l e9) lk_410 lk_412 lk_0 (by decide) h6 lk_85 lk_413 ⟨cn_X8_refuse, (by decide), by decide⟩ rfl (Nat.le_of_ble_eq_true rfl) (Nat.le_of_ble_eq_true rfl) (Nat.le_of_ble_eq_true rfl) (x_ri ?_)
    cases H
    exact x_iret 13 dX8_again_13 .int rfl rfl (Nat.le_of_ble_eq_true rfl) (Nat.le_of_ble_eq_true rfl) ⟨rfl, rfl⟩

def f_X8_again (v0 : Nat) (v1 : Int32) (M : XM) : Option (Int32 × XM) :=
  if x_tag M v0 = 8 + 10 then (x_bd (f_X8_isCounter v0 v1 M) (f_X8_again_c2 v0 v1)) else none
set_option maxRecDepth 20000 in
set_option maxHeartbeats 4000000 in
theorem t_X8_again (l : Launch) {v0 : Nat} {v1 : Int32} {M : XM} {q : Int32 × XM} (H : f_X8_again v0 v1 M = some q) : AW l m_X8_again 2 0 0 (x_Ri q) 0 0 0 [some (.ref v0), some (.int v1), none] [] M := by
  unfold f_X8_again at H
  refine x_aload_n 0 0 dX8_again_0 rfl rfl ?_
  refine x_iload_n 1 1 dX8_again_1 rfl rfl ?_
  obtain ⟨h1, H⟩ := x_ckp H
  obtain ⟨r3, M2, e4, H⟩ := x_bd_of H
  refine x_callV 2 123 8 [(.int v1)] [] dX8_again_2 (ct_X8_isCounter l e4) lk_478 lk_480 lk_3 (by decide) h1 lk_85 lk_481 ⟨cn_X8_isCounter, (by decide), by decide⟩ rfl (Nat.le_of_ble_eq_true rfl) (Nat.le_of_ble_eq_true rfl) (Nat.le_of_ble_eq_true rfl) (x_ri ?_)
  exact t_X8_again_c2 l H

theorem ct_X8_again (l : Launch) {v0 : Nat} {v1 : Int32} {M : XM} {q : Int32 × XM} (H : f_X8_again v0 v1 M = some q) : Ct l m_X8_again 2 0 0 [(.ref v0), (.int v1)] M (x_Ri q) := x_met l m_X8_again 2 0 0 [(.ref v0), (.int v1)] M (x_Ri q) _ rfl rfl (Nat.le_of_ble_eq_true rfl) (t_X8_again l H)
theorem lk_182 : Cond.fieldLink RX8 311 RX4 "done" "I" ∈ x_TB := x_tb (k := 182) (by decide +kernel) rfl
theorem lk_953 : Cond.code yX4_passEvening cX4_passEvening 3 none ∈ x_TB := x_tb (k := 953) (by decide +kernel) rfl
theorem lk_950 : Cond.methodLink RX8 314 yX4_passEvening ∈ x_TB := x_tb (k := 950) (by decide +kernel) rfl
theorem lk_952 : Cond.selects RX4 yX4_passEvening yX4_passEvening ∈ x_TB := x_tb (k := 952) (by decide +kernel) rfl
theorem lk_951 : Cond.instanceMethod yX4_passEvening ∈ x_TB := x_tb (k := 951) (by decide +kernel) rfl
abbrev m_X8_evenings : XU := (yX8_evenings, cX8_evenings, 4, (some .int))
theorem cn_X8_evenings : m_X8_evenings.1.cls ≠ "java/lang/invoke/MethodHandle" ∧ m_X8_evenings.1.cls ≠ "java/lang/invoke/VarHandle" ∧ (parseMethodDescriptor m_X8_evenings.1.desc).map (fun q => q.parameters.length) = some 1 := by decide +kernel
def f_X8_evenings_27 (v0 : Nat) (M : XM) : Option (Int32 × XM) :=
  if x_tag M v0 = 8 + 10 then (x_bd (f_X8_refuse v0 (-6 : Int32) M) (fun r10 M9 => some (r10, M9))) else none
set_option maxRecDepth 20000 in
set_option maxHeartbeats 4000000 in
theorem t_X8_evenings_27 (l : Launch) {v0 : Nat} {M : XM} {q : Int32 × XM} (H : f_X8_evenings_27 v0 M = some q) : AW l m_X8_evenings 5 0 0 (x_Ri q) 0 0 27 [some (.ref v0), none, none, none] [] M := by
  unfold f_X8_evenings_27 at H
  refine x_aload_n 27 0 dX8_evenings_27 rfl rfl ?_
  refine x_bipush 28 (-6 : Int32) dX8_evenings_28 (by decide) ?_
  obtain ⟨h8, H⟩ := x_ckp H
  obtain ⟨r10, M9, e11, H⟩ := x_bd_of H
  refine x_callV 30 86 8 [(.int (-6 : Int32))] [] dX8_evenings_30 (ct_X8_refuse l e11) lk_410 lk_412 lk_0 (by decide) h8 lk_85 lk_413 ⟨cn_X8_refuse, (by decide), by decide⟩ rfl (Nat.le_of_ble_eq_true rfl) (Nat.le_of_ble_eq_true rfl) (Nat.le_of_ble_eq_true rfl) (x_ri ?_)
  cases H
  exact x_iret 33 dX8_evenings_33 .int rfl rfl (Nat.le_of_ble_eq_true rfl) (Nat.le_of_ble_eq_true rfl) ⟨rfl, rfl⟩

def f_X8_evenings_c53 (κ44 : Nat → Int32 → Int32 → Int32 → XM → Option (Int32 × XM)) (v0 : Nat) (v1 : Int32) (v2 : Int32) (v3 : Int32) (M : XM) : Option (Int32 × XM) :=
  κ44 v0 v1 v2 (v3 + (1 : Int32)) M
set_option maxRecDepth 20000 in
set_option maxHeartbeats 4000000 in
theorem t_X8_evenings_c53 (l : Launch) {κ44 : Nat → Int32 → Int32 → Int32 → XM → Option (Int32 × XM)} {v0 : Nat} {v1 : Int32} {v2 : Int32} {v3 : Int32} {M : XM} {q : Int32 × XM} (hκ44 : ∀ (v0 : Nat) (v1 : Int32) (v2 : Int32) (v3 : Int32) (M : XM), κ44 v0 v1 v2 v3 M = some q → AW l m_X8_evenings 5 0 0 (x_Ri q) 0 0 44 [some (.ref v0), some (.int v1), some (.int v2), some (.int v3)] [] M) (H : f_X8_evenings_c53 κ44 v0 v1 v2 v3 M = some q) : AW l m_X8_evenings 5 0 0 (x_Ri q) 0 0 56 [some (.ref v0), some (.int v1), some (.int v2), some (.int v3)] [] M := by
  unfold f_X8_evenings_c53 at H
  refine x_iinc 56 3 (v3 + (1 : Int32)) [some (.ref v0), some (.int v1), some (.int v2), some (.int (v3 + (1 : Int32)))] dX8_evenings_56 rfl (congrArg (fun z : Int32 => v3 + z) (show Int32.ofInt (1) = (1 : Int32) by decide)) rfl (Nat.le_of_ble_eq_true rfl) rfl ?_
  refine x_goto 59 44 dX8_evenings_59 (by decide) ?_
  exact hκ44 _ _ _ _ _ H

def bd_X8_evenings_44 (κ44 : Nat → Int32 → Int32 → Int32 → XM → Option (Int32 × XM)) (v0 : Nat) (v1 : Int32) (v2 : Int32) (v3 : Int32) (M : XM) : Option (Int32 × XM) :=
  if v1 ≤ v3 then (if x_tag M v0 = 8 + 10 then (if x_tag M (x_r M v0 0) = 4 + 10 then (some (((x_i M (x_r M v0 0) 8) - v2), M)) else none) else none) else (if x_tag M v0 = 8 + 10 then (if x_tag M (x_r M v0 0) = 4 + 10 then (x_bv (f_X4_passEvening (x_r M v0 0) M) (f_X8_evenings_c53 κ44 v0 v1 v2 v3)) else none) else none)
set_option maxRecDepth 20000 in
set_option maxHeartbeats 4000000 in
theorem tb_X8_evenings_44 (l : Launch) {κ44 : Nat → Int32 → Int32 → Int32 → XM → Option (Int32 × XM)} {v0 : Nat} {v1 : Int32} {v2 : Int32} {v3 : Int32} {M : XM} {q : Int32 × XM} (hκ44 : ∀ (v0 : Nat) (v1 : Int32) (v2 : Int32) (v3 : Int32) (M : XM), κ44 v0 v1 v2 v3 M = some q → AW l m_X8_evenings 5 0 0 (x_Ri q) 0 0 44 [some (.ref v0), some (.int v1), some (.int v2), some (.int v3)] [] M) (H : bd_X8_evenings_44 κ44 v0 v1 v2 v3 M = some q) : AW l m_X8_evenings 5 0 0 (x_Ri q) 0 0 44 [some (.ref v0), some (.int v1), some (.int v2), some (.int v3)] [] M := by
  unfold bd_X8_evenings_44 at H
  refine x_iload_n 44 3 dX8_evenings_44 rfl rfl ?_
  refine x_iload_n 45 1 dX8_evenings_45 rfl rfl ?_
  refine x_icmp_ge 46 62 dX8_evenings_46 (by decide) (fun c13 => ?_) (fun c13 => ?_)
  · replace H := x_ifp c13 H
    refine x_aload_n 62 0 dX8_evenings_62 rfl rfl ?_
    obtain ⟨h14, H⟩ := x_ckp H
    refine x_getf 63 10 8 0 (.ref (x_r M v0 0)) dX8_evenings_63 lk_360 (by decide) (by decide) rfl (fun _ => rfl) h14 ?_
    obtain ⟨h15, H⟩ := x_ckp H
    refine x_getf 66 311 4 8 (.int (x_i M (x_r M v0 0) 8)) dX8_evenings_66 lk_182 (by decide) (by decide) rfl (fun _ => rfl) h15 ?_
    refine x_iload_n 69 2 dX8_evenings_69 rfl rfl ?_
    refine x_isub 70 dX8_evenings_70 ?_
    cases H
    exact x_iret 71 dX8_evenings_71 .int rfl rfl (Nat.le_of_ble_eq_true rfl) (Nat.le_of_ble_eq_true rfl) ⟨rfl, rfl⟩
  · replace H := x_ifn c13 H
    refine x_aload_n 49 0 dX8_evenings_49 rfl rfl ?_
    obtain ⟨h16, H⟩ := x_ckp H
    refine x_getf 50 10 8 0 (.ref (x_r M v0 0)) dX8_evenings_50 lk_360 (by decide) (by decide) rfl (fun _ => rfl) h16 ?_
    obtain ⟨h17, H⟩ := x_ckp H
    obtain ⟨M18, e20, H⟩ := x_bv_of H
    refine x_callV 53 314 4 [] [] dX8_evenings_53 (ct_X4_passEvening l e20) lk_950 lk_951 lk_952 (by decide) h17 lk_86 lk_953 ⟨cn_X4_passEvening, (by decide), by decide⟩ rfl (Nat.le_of_ble_eq_true rfl) (Nat.le_of_ble_eq_true rfl) (Nat.le_of_ble_eq_true rfl) (x_rv ?_)
    exact t_X8_evenings_c53 l hκ44 H

def lp_X8_evenings_44 (n : Nat) : Nat → Int32 → Int32 → Int32 → XM → Option (Int32 × XM) := x_rec (fun _ _ _ _ _ => none) (bd_X8_evenings_44) n
theorem t_X8_evenings_44 (l : Launch) {q : Int32 × XM} : ∀ (n : Nat) (v0 : Nat) (v1 : Int32) (v2 : Int32) (v3 : Int32) (M : XM), lp_X8_evenings_44 n v0 v1 v2 v3 M = some q → AW l m_X8_evenings 5 0 0 (x_Ri q) 0 0 44 [some (.ref v0), some (.int v1), some (.int v2), some (.int v3)] [] M := by
  intro n
  induction n with
  | zero => intro v0 v1 v2 v3 M H; cases H
  | succ n ih => intro v0 v1 v2 v3 M H; exact tb_X8_evenings_44 l ih H
def f_X8_evenings (v0 : Nat) (v1 : Int32) (M : XM) : Option (Int32 × XM) :=
  if x_tag M v0 = 8 + 10 then (if x_tag M (x_r M v0 0) = 4 + 10 then (if (x_i M (x_r M v0 0) 1) = 0 then (x_bd (f_X8_refuse v0 (-5 : Int32) M) (fun r5 M4 => some (r5, M4))) else (if v1 < (1 : Int32) then (f_X8_evenings_27 v0 M) else (if v1 ≤ (5 : Int32) then (lp_X8_evenings_44 x_fuel v0 v1 (x_i M (x_r M v0 0) 8) (0 : Int32) M) else (f_X8_evenings_27 v0 M)))) else none) else none
set_option maxRecDepth 20000 in
set_option maxHeartbeats 4000000 in
theorem t_X8_evenings (l : Launch) {v0 : Nat} {v1 : Int32} {M : XM} {q : Int32 × XM} (H : f_X8_evenings v0 v1 M = some q) : AW l m_X8_evenings 5 0 0 (x_Ri q) 0 0 0 [some (.ref v0), some (.int v1), none, none] [] M := by
  unfold f_X8_evenings at H
  refine x_aload_n 0 0 dX8_evenings_0 rfl rfl ?_
  obtain ⟨h1, H⟩ := x_ckp H
  refine x_getf 1 10 8 0 (.ref (x_r M v0 0)) dX8_evenings_1 lk_360 (by decide) (by decide) rfl (fun _ => rfl) h1 ?_
  obtain ⟨h2, H⟩ := x_ckp H
  refine x_getf 4 273 4 1 (.int (x_i M (x_r M v0 0) 1)) dX8_evenings_4 lk_161 (by decide) (by decide) rfl (fun _ => rfl) h2 ?_
  refine x_if_ne 7 17 dX8_evenings_7 (by decide) (fun c3 => ?_) (fun c3 => ?_)
  · replace H := x_ifn c3 H
    refine x_iload_n 17 1 dX8_evenings_17 rfl rfl ?_
    refine x_iconst 18 (1 : Int32) dX8_evenings_18 (by decide) ?_
    refine x_icmp_lt 19 27 dX8_evenings_19 (by decide) (fun c7 => ?_) (fun c7 => ?_)
    · replace H := x_ifp c7 H
      exact x_wk (le_s (le_n (le_s (le_s le_0)))) (t_X8_evenings_27 l H)
    · replace H := x_ifn c7 H
      refine x_iload_n 22 1 dX8_evenings_22 rfl rfl ?_
      refine x_iconst 23 (5 : Int32) dX8_evenings_23 (by decide) ?_
      refine x_icmp_le 24 34 dX8_evenings_24 (by decide) (fun c12 => ?_) (fun c12 => ?_)
      · replace H := x_ifp c12 H
        refine x_aload_n 34 0 dX8_evenings_34 rfl rfl ?_
        refine x_getf 35 10 8 0 (.ref (x_r M v0 0)) dX8_evenings_35 lk_360 (by decide) (by decide) rfl (fun _ => rfl) h1 ?_
        refine x_getf 38 311 4 8 (.int (x_i M (x_r M v0 0) 8)) dX8_evenings_38 lk_182 (by decide) (by decide) rfl (fun _ => rfl) h2 ?_
        refine x_istore_n 41 2 [some (.ref v0), some (.int v1), some (.int (x_i M (x_r M v0 0) 8)), none] dX8_evenings_41 rfl rfl (Nat.le_of_ble_eq_true rfl) rfl ?_
        refine x_iconst 42 (0 : Int32) dX8_evenings_42 (by decide) ?_
        refine x_istore_n 43 3 [some (.ref v0), some (.int v1), some (.int (x_i M (x_r M v0 0) 8)), some (.int (0 : Int32))] dX8_evenings_43 rfl rfl (Nat.le_of_ble_eq_true rfl) rfl ?_
        exact t_X8_evenings_44 l _ _ _ _ _ _ H
      · replace H := x_ifn c12 H
        exact x_wk (le_s (le_n (le_s (le_s le_0)))) (t_X8_evenings_27 l H)
  · replace H := x_ifp c3 H
    refine x_aload_n 10 0 dX8_evenings_10 rfl rfl ?_
    refine x_bipush 11 (-5 : Int32) dX8_evenings_11 (by decide) ?_
    obtain ⟨r5, M4, e6, H⟩ := x_bd_of H
    refine x_callV 13 86 8 [(.int (-5 : Int32))] [] dX8_evenings_13 (ct_X8_refuse l e6) lk_410 lk_412 lk_0 (by decide) h1 lk_85 lk_413 ⟨cn_X8_refuse, (by decide), by decide⟩ rfl (Nat.le_of_ble_eq_true rfl) (Nat.le_of_ble_eq_true rfl) (Nat.le_of_ble_eq_true rfl) (x_ri ?_)
    cases H
    exact x_iret 16 dX8_evenings_16 .int rfl rfl (Nat.le_of_ble_eq_true rfl) (Nat.le_of_ble_eq_true rfl) ⟨rfl, rfl⟩

theorem ct_X8_evenings (l : Launch) {v0 : Nat} {v1 : Int32} {M : XM} {q : Int32 × XM} (H : f_X8_evenings v0 v1 M = some q) : Ct l m_X8_evenings 5 0 0 [(.ref v0), (.int v1)] M (x_Ri q) := x_met l m_X8_evenings 5 0 0 [(.ref v0), (.int v1)] M (x_Ri q) _ rfl rfl (Nat.le_of_ble_eq_true rfl) (t_X8_evenings l H)
theorem lk_184 : Cond.fieldLink RX8 317 RX4 "seed" "I" ∈ x_TB := x_tb (k := 184) (by decide +kernel) rfl
abbrev m_X8_seed : XU := (yX8_seed, cX8_seed, 3, (some .int))
theorem cn_X8_seed : m_X8_seed.1.cls ≠ "java/lang/invoke/MethodHandle" ∧ m_X8_seed.1.cls ≠ "java/lang/invoke/VarHandle" ∧ (parseMethodDescriptor m_X8_seed.1.desc).map (fun q => q.parameters.length) = some 1 := by decide +kernel
def f_X8_seed (v0 : Nat) (v1 : Int32) (M : XM) : Option (Int32 × XM) :=
  if x_tag M v0 = 8 + 10 then (if x_tag M (x_r M v0 0) = 4 + 10 then (x_lt (x_wi M (x_r M v0 0) 9 v1) (fun M3 => some ((x_i M (x_r M v0 0) 9), M3))) else none) else none
set_option maxRecDepth 20000 in
set_option maxHeartbeats 4000000 in
theorem t_X8_seed (l : Launch) {v0 : Nat} {v1 : Int32} {M : XM} {q : Int32 × XM} (H : f_X8_seed v0 v1 M = some q) : AW l m_X8_seed 1 0 0 (x_Ri q) 0 0 0 [some (.ref v0), some (.int v1), none] [] M := by
  unfold f_X8_seed at H
  refine x_aload_n 0 0 dX8_seed_0 rfl rfl ?_
  obtain ⟨h1, H⟩ := x_ckp H
  refine x_getf 1 10 8 0 (.ref (x_r M v0 0)) dX8_seed_1 lk_360 (by decide) (by decide) rfl (fun _ => rfl) h1 ?_
  obtain ⟨h2, H⟩ := x_ckp H
  refine x_getf 4 317 4 9 (.int (x_i M (x_r M v0 0) 9)) dX8_seed_4 lk_184 (by decide) (by decide) rfl (fun _ => rfl) h2 ?_
  refine x_istore_n 7 2 [some (.ref v0), some (.int v1), some (.int (x_i M (x_r M v0 0) 9))] dX8_seed_7 rfl rfl (Nat.le_of_ble_eq_true rfl) rfl ?_
  refine x_aload_n 8 0 dX8_seed_8 rfl rfl ?_
  refine x_getf 9 10 8 0 (.ref (x_r M v0 0)) dX8_seed_9 lk_360 (by decide) (by decide) rfl (fun _ => rfl) h1 ?_
  refine x_iload_n 12 1 dX8_seed_12 rfl rfl ?_
  obtain ⟨M3, w4, H⟩ := x_lt_of H
  have h5 : x_tag M3 v0 = 8 + 10 := by rw [w4]; exact h1
  have h6 : x_tag M3 (x_r M v0 0) = 4 + 10 := by rw [w4]; exact h2
  refine x_putI' 13 317 4 9 dX8_seed_13 lk_184 (by decide) (by decide) rfl (Or.inl rfl) (Or.inl rfl) h2 w4 ?_
  refine x_iload_n 16 2 dX8_seed_16 rfl rfl ?_
  cases H
  exact x_iret 17 dX8_seed_17 .int rfl rfl (Nat.le_of_ble_eq_true rfl) (Nat.le_of_ble_eq_true rfl) ⟨rfl, rfl⟩

theorem ct_X8_seed (l : Launch) {v0 : Nat} {v1 : Int32} {M : XM} {q : Int32 × XM} (H : f_X8_seed v0 v1 M = some q) : Ct l m_X8_seed 1 0 0 [(.ref v0), (.int v1)] M (x_Ri q) := x_met l m_X8_seed 1 0 0 [(.ref v0), (.int v1)] M (x_Ri q) _ rfl rfl (Nat.le_of_ble_eq_true rfl) (t_X8_seed l H)
theorem lk_976 : Cond.code yX0_forgetTrace cX0_forgetTrace 1 none ∈ x_TB := x_tb (k := 976) (by decide +kernel) rfl
theorem lk_973 : Cond.methodLink RX8 320 yX0_forgetTrace ∈ x_TB := x_tb (k := 973) (by decide +kernel) rfl
theorem lk_975 : Cond.selects RX0 yX0_forgetTrace yX0_forgetTrace ∈ x_TB := x_tb (k := 975) (by decide +kernel) rfl
theorem lk_974 : Cond.instanceMethod yX0_forgetTrace ∈ x_TB := x_tb (k := 974) (by decide +kernel) rfl
theorem lk_980 : Cond.code yX0_perform cX0_perform 5 (some .int) ∈ x_TB := x_tb (k := 980) (by decide +kernel) rfl
theorem lk_977 : Cond.methodLink RX8 323 yX0_perform ∈ x_TB := x_tb (k := 977) (by decide +kernel) rfl
theorem lk_979 : Cond.selects RX0 yX0_perform yX0_perform ∈ x_TB := x_tb (k := 979) (by decide +kernel) rfl
theorem lk_978 : Cond.instanceMethod yX0_perform ∈ x_TB := x_tb (k := 978) (by decide +kernel) rfl
abbrev m_X8_act : XU := (yX8_act, cX8_act, 4, (some .int))
theorem cn_X8_act : m_X8_act.1.cls ≠ "java/lang/invoke/MethodHandle" ∧ m_X8_act.1.cls ≠ "java/lang/invoke/VarHandle" ∧ (parseMethodDescriptor m_X8_act.1.desc).map (fun q => q.parameters.length) = some 3 := by decide +kernel
def f_X8_act_c9 (v0 : Nat) (v1 : Int32) (v2 : Int32) (v3 : Int32) (s0 : Int32) (M : XM) : Option (Int32 × XM) :=
  if s0 = 0 then (some ((0 : Int32), M)) else (if v2 < 0 then (some ((0 : Int32), M)) else (if v2 ≤ (2 : Int32) then (if x_tag M v0 = 8 + 10 then (if x_tag M (x_r M v0 0) = 4 + 10 then (if x_at M (x_r M (x_r M v0 0) 0) 3 v1 = true then (if x_tag M (x_r M v0 13) = 0 + 10 then (x_bd (f_X0_perform (x_r M v0 13) (x_r M (x_r M (x_r M v0 0) 0) v1.toNatClampNeg) v1 v2 v3 M) (fun r18 M17 => some (r18, M17))) else none) else none) else none) else none) else (some ((0 : Int32), M))))
set_option maxRecDepth 20000 in
set_option maxHeartbeats 4000000 in
theorem t_X8_act_c9 (l : Launch) {v0 : Nat} {v1 : Int32} {v2 : Int32} {v3 : Int32} {s0 : Int32} {M : XM} {q : Int32 × XM} (H : f_X8_act_c9 v0 v1 v2 v3 s0 M = some q) : AW l m_X8_act 32 0 0 (x_Ri q) 0 0 12 [some (.ref v0), some (.int v1), some (.int v2), some (.int v3)] [(.int s0)] M := by
  unfold f_X8_act_c9 at H
  refine x_if_eq 12 24 dX8_act_12 (by decide) (fun c10 => ?_) (fun c10 => ?_)
  · replace H := x_ifp c10 H
    refine x_iconst 24 (0 : Int32) dX8_act_24 (by decide) ?_
    cases H
    exact x_iret 25 dX8_act_25 .int rfl rfl (Nat.le_of_ble_eq_true rfl) (Nat.le_of_ble_eq_true rfl) ⟨rfl, rfl⟩
  · replace H := x_ifn c10 H
    refine x_iload_n 15 2 dX8_act_15 rfl rfl ?_
    refine x_if_lt 16 24 dX8_act_16 (by decide) (fun c11 => ?_) (fun c11 => ?_)
    · replace H := x_ifp c11 H
      refine x_iconst 24 (0 : Int32) dX8_act_24 (by decide) ?_
      cases H
      exact x_iret 25 dX8_act_25 .int rfl rfl (Nat.le_of_ble_eq_true rfl) (Nat.le_of_ble_eq_true rfl) ⟨rfl, rfl⟩
    · replace H := x_ifn c11 H
      refine x_iload_n 19 2 dX8_act_19 rfl rfl ?_
      refine x_iconst 20 (2 : Int32) dX8_act_20 (by decide) ?_
      refine x_icmp_le 21 26 dX8_act_21 (by decide) (fun c12 => ?_) (fun c12 => ?_)
      · replace H := x_ifp c12 H
        refine x_aload_n 26 0 dX8_act_26 rfl rfl ?_
        obtain ⟨h13, H⟩ := x_ckp H
        refine x_getf 27 77 8 13 (.ref (x_r M v0 13)) dX8_act_27 lk_373 (by decide) (by decide) rfl (fun _ => rfl) h13 ?_
        refine x_aload_n 30 0 dX8_act_30 rfl rfl ?_
        refine x_getf 31 10 8 0 (.ref (x_r M v0 0)) dX8_act_31 lk_360 (by decide) (by decide) rfl (fun _ => rfl) h13 ?_
        obtain ⟨h14, H⟩ := x_ckp H
        refine x_getf 34 144 4 0 (.ref (x_r M (x_r M v0 0) 0)) dX8_act_34 lk_158 (by decide) (by decide) rfl (fun _ => rfl) h14 ?_
        refine x_iload_n 37 1 dX8_act_37 rfl rfl ?_
        obtain ⟨h15, H⟩ := x_ckp H
        refine x_aald3 38 dX8_act_38 h15 ?_
        refine x_iload_n 39 1 dX8_act_39 rfl rfl ?_
        refine x_iload_n 40 2 dX8_act_40 rfl rfl ?_
        refine x_iload_n 41 3 dX8_act_41 rfl rfl ?_
        obtain ⟨h16, H⟩ := x_ckp H
        obtain ⟨r18, M17, e19, H⟩ := x_bd_of H
        refine x_callV 42 323 0 [(.ref (x_r M (x_r M (x_r M v0 0) 0) v1.toNatClampNeg)), (.int v1), (.int v2), (.int v3)] [] dX8_act_42 (ct_X0_perform l e19) lk_977 lk_978 lk_979 (by decide) h16 lk_92 lk_980 ⟨cn_X0_perform, (by decide), by decide⟩ rfl (Nat.le_of_ble_eq_true rfl) (Nat.le_of_ble_eq_true rfl) (Nat.le_of_ble_eq_true rfl) (x_ri ?_)
        cases H
        exact x_iret 45 dX8_act_45 .int rfl rfl (Nat.le_of_ble_eq_true rfl) (Nat.le_of_ble_eq_true rfl) ⟨rfl, rfl⟩
      · replace H := x_ifn c12 H
        refine x_iconst 24 (0 : Int32) dX8_act_24 (by decide) ?_
        cases H
        exact x_iret 25 dX8_act_25 .int rfl rfl (Nat.le_of_ble_eq_true rfl) (Nat.le_of_ble_eq_true rfl) ⟨rfl, rfl⟩

def f_X8_act_c4 (v0 : Nat) (v1 : Int32) (v2 : Int32) (v3 : Int32) (M : XM) : Option (Int32 × XM) :=
  if x_tag M v0 = 8 + 10 then (x_bd (f_X8_isCounter v0 v1 M) (f_X8_act_c9 v0 v1 v2 v3)) else none
set_option maxRecDepth 20000 in
set_option maxHeartbeats 4000000 in
theorem t_X8_act_c4 (l : Launch) {v0 : Nat} {v1 : Int32} {v2 : Int32} {v3 : Int32} {M : XM} {q : Int32 × XM} (H : f_X8_act_c4 v0 v1 v2 v3 M = some q) : AW l m_X8_act 32 0 0 (x_Ri q) 0 0 7 [some (.ref v0), some (.int v1), some (.int v2), some (.int v3)] [] M := by
  unfold f_X8_act_c4 at H
  refine x_aload_n 7 0 dX8_act_7 rfl rfl ?_
  refine x_iload_n 8 1 dX8_act_8 rfl rfl ?_
  obtain ⟨h6, H⟩ := x_ckp H
  obtain ⟨r8, M7, e9, H⟩ := x_bd_of H
  refine x_callV 9 123 8 [(.int v1)] [] dX8_act_9 (ct_X8_isCounter l e9) lk_478 lk_480 lk_3 (by decide) h6 lk_85 lk_481 ⟨cn_X8_isCounter, (by decide), by decide⟩ rfl (Nat.le_of_ble_eq_true rfl) (Nat.le_of_ble_eq_true rfl) (Nat.le_of_ble_eq_true rfl) (x_ri ?_)
  exact t_X8_act_c9 l H

def f_X8_act (v0 : Nat) (v1 : Int32) (v2 : Int32) (v3 : Int32) (M : XM) : Option (Int32 × XM) :=
  if x_tag M v0 = 8 + 10 then (if x_tag M (x_r M v0 13) = 0 + 10 then (x_bv (f_X0_forgetTrace (x_r M v0 13) M) (f_X8_act_c4 v0 v1 v2 v3)) else none) else none
set_option maxRecDepth 20000 in
set_option maxHeartbeats 4000000 in
theorem t_X8_act (l : Launch) {v0 : Nat} {v1 : Int32} {v2 : Int32} {v3 : Int32} {M : XM} {q : Int32 × XM} (H : f_X8_act v0 v1 v2 v3 M = some q) : AW l m_X8_act 32 0 0 (x_Ri q) 0 0 0 [some (.ref v0), some (.int v1), some (.int v2), some (.int v3)] [] M := by
  unfold f_X8_act at H
  refine x_aload_n 0 0 dX8_act_0 rfl rfl ?_
  obtain ⟨h1, H⟩ := x_ckp H
  refine x_getf 1 77 8 13 (.ref (x_r M v0 13)) dX8_act_1 lk_373 (by decide) (by decide) rfl (fun _ => rfl) h1 ?_
  obtain ⟨h2, H⟩ := x_ckp H
  obtain ⟨M3, e5, H⟩ := x_bv_of H
  refine x_callV 4 320 0 [] [] dX8_act_4 (ct_X0_forgetTrace l e5) lk_973 lk_974 lk_975 (by decide) h2 lk_92 lk_976 ⟨cn_X0_forgetTrace, (by decide), by decide⟩ rfl (Nat.le_of_ble_eq_true rfl) (Nat.le_of_ble_eq_true rfl) (Nat.le_of_ble_eq_true rfl) (x_rv ?_)
  exact t_X8_act_c4 l H

theorem ct_X8_act (l : Launch) {v0 : Nat} {v1 : Int32} {v2 : Int32} {v3 : Int32} {M : XM} {q : Int32 × XM} (H : f_X8_act v0 v1 v2 v3 M = some q) : Ct l m_X8_act 32 0 0 [(.ref v0), (.int v1), (.int v2), (.int v3)] M (x_Ri q) := x_met l m_X8_act 32 0 0 [(.ref v0), (.int v1), (.int v2), (.int v3)] M (x_Ri q) _ rfl rfl (Nat.le_of_ble_eq_true rfl) (t_X8_act l H)
theorem lk_1010 : Cond.code yX0_bodyAt cX0_bodyAt 2 (some .int) ∈ x_TB := x_tb (k := 1010) (by decide +kernel) rfl
theorem lk_1007 : Cond.methodLink RX8 327 yX0_bodyAt ∈ x_TB := x_tb (k := 1007) (by decide +kernel) rfl
theorem lk_1009 : Cond.selects RX0 yX0_bodyAt yX0_bodyAt ∈ x_TB := x_tb (k := 1009) (by decide +kernel) rfl
theorem lk_1008 : Cond.instanceMethod yX0_bodyAt ∈ x_TB := x_tb (k := 1008) (by decide +kernel) rfl
abbrev m_X8_trace : XU := (yX8_trace, cX8_trace, 2, (some .int))
theorem cn_X8_trace : m_X8_trace.1.cls ≠ "java/lang/invoke/MethodHandle" ∧ m_X8_trace.1.cls ≠ "java/lang/invoke/VarHandle" ∧ (parseMethodDescriptor m_X8_trace.1.desc).map (fun q => q.parameters.length) = some 1 := by decide +kernel
def f_X8_trace (v0 : Nat) (v1 : Int32) (M : XM) : Option (Int32 × XM) :=
  if x_tag M v0 = 8 + 10 then (if x_tag M (x_r M v0 13) = 0 + 10 then (x_bd (f_X0_bodyAt (x_r M v0 13) v1 M) (fun r4 M3 => some (r4, M3))) else none) else none
set_option maxRecDepth 20000 in
set_option maxHeartbeats 4000000 in
theorem t_X8_trace (l : Launch) {v0 : Nat} {v1 : Int32} {M : XM} {q : Int32 × XM} (H : f_X8_trace v0 v1 M = some q) : AW l m_X8_trace 2 0 0 (x_Ri q) 0 0 0 [some (.ref v0), some (.int v1)] [] M := by
  unfold f_X8_trace at H
  refine x_aload_n 0 0 dX8_trace_0 rfl rfl ?_
  obtain ⟨h1, H⟩ := x_ckp H
  refine x_getf 1 77 8 13 (.ref (x_r M v0 13)) dX8_trace_1 lk_373 (by decide) (by decide) rfl (fun _ => rfl) h1 ?_
  refine x_iload_n 4 1 dX8_trace_4 rfl rfl ?_
  obtain ⟨h2, H⟩ := x_ckp H
  obtain ⟨r4, M3, e5, H⟩ := x_bd_of H
  refine x_callV 5 327 0 [(.int v1)] [] dX8_trace_5 (ct_X0_bodyAt l e5) lk_1007 lk_1008 lk_1009 (by decide) h2 lk_92 lk_1010 ⟨cn_X0_bodyAt, (by decide), by decide⟩ rfl (Nat.le_of_ble_eq_true rfl) (Nat.le_of_ble_eq_true rfl) (Nat.le_of_ble_eq_true rfl) (x_ri ?_)
  cases H
  exact x_iret 8 dX8_trace_8 .int rfl rfl (Nat.le_of_ble_eq_true rfl) (Nat.le_of_ble_eq_true rfl) ⟨rfl, rfl⟩

theorem ct_X8_trace (l : Launch) {v0 : Nat} {v1 : Int32} {M : XM} {q : Int32 × XM} (H : f_X8_trace v0 v1 M = some q) : Ct l m_X8_trace 2 0 0 [(.ref v0), (.int v1)] M (x_Ri q) := x_met l m_X8_trace 2 0 0 [(.ref v0), (.int v1)] M (x_Ri q) _ rfl rfl (Nat.le_of_ble_eq_true rfl) (t_X8_trace l H)
theorem lk_362 : Cond.fieldLink RX8 330 RX8 "hasImage" "Z" ∈ x_TB := x_tb (k := 362) (by decide +kernel) rfl
abbrev m_X8_image : XU := (yX8_image, cX8_image, 1, (some .int))
theorem cn_X8_image : m_X8_image.1.cls ≠ "java/lang/invoke/MethodHandle" ∧ m_X8_image.1.cls ≠ "java/lang/invoke/VarHandle" ∧ (parseMethodDescriptor m_X8_image.1.desc).map (fun q => q.parameters.length) = some 0 := by decide +kernel
def f_X8_image_c8 (v0 : Nat) (M : XM) : Option (Int32 × XM) :=
  if x_tag M v0 = 8 + 10 then (x_lt (x_wi M v0 2 (1 : Int32)) (fun M7 => if x_tag M7 (x_r M7 v0 0) = 4 + 10 then (some ((x_i M7 (x_r M7 v0 0) 1), M7)) else none)) else none
set_option maxRecDepth 20000 in
set_option maxHeartbeats 4000000 in
theorem t_X8_image_c8 (l : Launch) {v0 : Nat} {M : XM} {q : Int32 × XM} (H : f_X8_image_c8 v0 M = some q) : AW l m_X8_image 3 0 0 (x_Ri q) 0 0 11 [some (.ref v0)] [] M := by
  unfold f_X8_image_c8 at H
  refine x_aload_n 11 0 dX8_image_11 rfl rfl ?_
  refine x_iconst 12 (1 : Int32) dX8_image_12 (by decide) ?_
  obtain ⟨h6, H⟩ := x_ckp H
  obtain ⟨M7, w8, H⟩ := x_lt_of H
  have h9 : x_tag M7 v0 = 8 + 10 := by rw [w8]; exact h6
  refine x_putI' 13 330 8 2 dX8_image_13 lk_362 (by decide) (by decide) rfl (Or.inr ⟨rfl, Or.inr rfl⟩) (Or.inl rfl) h6 w8 ?_
  refine x_aload_n 16 0 dX8_image_16 rfl rfl ?_
  refine x_getf 17 10 8 0 (.ref (x_r M7 v0 0)) dX8_image_17 lk_360 (by decide) (by decide) rfl (fun _ => rfl) h9 ?_
  obtain ⟨h10, H⟩ := x_ckp H
  refine x_getf 20 273 4 1 (.int (x_i M7 (x_r M7 v0 0) 1)) dX8_image_20 lk_161 (by decide) (by decide) rfl (fun _ => rfl) h10 ?_
  cases H
  exact x_iret 23 dX8_image_23 .int rfl rfl (Nat.le_of_ble_eq_true rfl) (Nat.le_of_ble_eq_true rfl) ⟨rfl, rfl⟩

def f_X8_image (v0 : Nat) (M : XM) : Option (Int32 × XM) :=
  if x_tag M v0 = 8 + 10 then (if x_tag M (x_r M v0 1) = 4 + 10 then (x_bv (f_X4_becomeLike (x_r M v0 1) (x_r M v0 0) M) (f_X8_image_c8 v0)) else none) else none
set_option maxRecDepth 20000 in
set_option maxHeartbeats 4000000 in
theorem t_X8_image (l : Launch) {v0 : Nat} {M : XM} {q : Int32 × XM} (H : f_X8_image v0 M = some q) : AW l m_X8_image 3 0 0 (x_Ri q) 0 0 0 [some (.ref v0)] [] M := by
  unfold f_X8_image at H
  refine x_aload_n 0 0 dX8_image_0 rfl rfl ?_
  obtain ⟨h1, H⟩ := x_ckp H
  refine x_getf 1 16 8 1 (.ref (x_r M v0 1)) dX8_image_1 lk_361 (by decide) (by decide) rfl (fun _ => rfl) h1 ?_
  refine x_aload_n 4 0 dX8_image_4 rfl rfl ?_
  refine x_getf 5 10 8 0 (.ref (x_r M v0 0)) dX8_image_5 lk_360 (by decide) (by decide) rfl (fun _ => rfl) h1 ?_
  obtain ⟨h2, H⟩ := x_ckp H
  obtain ⟨M3, e5, H⟩ := x_bv_of H
  refine x_callV 8 203 4 [(.ref (x_r M v0 0))] [] dX8_image_8 (ct_X4_becomeLike l e5) lk_722 lk_576 lk_577 (by decide) h2 lk_86 lk_578 ⟨cn_X4_becomeLike, (by decide), by decide⟩ rfl (Nat.le_of_ble_eq_true rfl) (Nat.le_of_ble_eq_true rfl) (Nat.le_of_ble_eq_true rfl) (x_rv ?_)
  exact t_X8_image_c8 l H

theorem ct_X8_image (l : Launch) {v0 : Nat} {M : XM} {q : Int32 × XM} (H : f_X8_image v0 M = some q) : Ct l m_X8_image 3 0 0 [(.ref v0)] M (x_Ri q) := x_met l m_X8_image 3 0 0 [(.ref v0)] M (x_Ri q) _ rfl rfl (Nat.le_of_ble_eq_true rfl) (t_X8_image l H)
