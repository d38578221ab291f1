theorem lk_1467 : Cond.code yX9_areThrough cX9_areThrough 2 (some .boolean) ∈ x_TB := x_tb (k := 1467) (by decide +kernel) rfl
theorem lk_1464 : Cond.methodLink RX9 277 yX9_areThrough ∈ x_TB := x_tb (k := 1464) (by decide +kernel) rfl
theorem lk_78 : Cond.selects RX9 yX9_areThrough yX9_areThrough ∈ x_TB := x_tb (k := 78) (by decide +kernel) rfl
theorem lk_1466 : Cond.instanceMethod yX9_areThrough ∈ x_TB := x_tb (k := 1466) (by decide +kernel) rfl
theorem lk_1471 : Cond.code yX9_draw cX9_draw 2 (some .int) ∈ x_TB := x_tb (k := 1471) (by decide +kernel) rfl
theorem lk_1468 : Cond.methodLink RX9 280 yX9_draw ∈ x_TB := x_tb (k := 1468) (by decide +kernel) rfl
theorem lk_79 : Cond.selects RX9 yX9_draw yX9_draw ∈ x_TB := x_tb (k := 79) (by decide +kernel) rfl
theorem lk_1470 : Cond.instanceMethod yX9_draw ∈ x_TB := x_tb (k := 1470) (by decide +kernel) rfl
abbrev m_X9_evenings : XU := (yX9_evenings, cX9_evenings, 6, (some .int))
theorem cn_X9_evenings : m_X9_evenings.1.cls ≠ "java/lang/invoke/MethodHandle" ∧ m_X9_evenings.1.cls ≠ "java/lang/invoke/VarHandle" ∧ (parseMethodDescriptor m_X9_evenings.1.desc).map (fun q => q.parameters.length) = some 1 := by decide +kernel
def f_X9_evenings_24 (v0 : Nat) (M : XM) : Option (Int32 × XM) :=
  if x_tag M v0 = 9 + 10 then (x_bd (f_X9_no v0 (-6 : Int32) M) (fun r9 M8 => some (r9, M8))) else none
set_option maxRecDepth 20000 in
set_option maxHeartbeats 4000000 in
theorem t_X9_evenings_24 (l : Launch) {v0 : Nat} {M : XM} {q : Int32 × XM} (H : f_X9_evenings_24 v0 M = some q) : AW l m_X9_evenings 3 0 0 (x_Ri q) 0 0 24 [some (.ref v0), none, none, none, none, none] [] M := by
  unfold f_X9_evenings_24 at H
  refine x_aload_n 24 0 dX9_evenings_24 rfl rfl ?_
  refine x_bipush 25 (-6 : Int32) dX9_evenings_25 (by decide) ?_
  obtain ⟨h7, H⟩ := x_ckp H
  obtain ⟨r9, M8, e10, H⟩ := x_bd_of H
  refine x_callV 27 100 9 [(.int (-6 : Int32))] [] dX9_evenings_27 (ct_X9_no l e10) lk_1165 lk_1167 lk_37 (by decide) h7 lk_94 lk_1168 ⟨cn_X9_no, (by decide), by decide⟩ rfl (Nat.le_of_ble_eq_true rfl) (Nat.le_of_ble_eq_true rfl) (Nat.le_of_ble_eq_true rfl) (x_ri ?_)
  cases H
  exact x_iret 30 dX9_evenings_30 .int rfl rfl (Nat.le_of_ble_eq_true rfl) (Nat.le_of_ble_eq_true rfl) ⟨rfl, rfl⟩

def f_X9_evenings_155 (κ38 : Nat → Int32 → Int32 → Int32 → XM → Option (Int32 × XM)) (v0 : Nat) (v1 : Int32) (v2 : Int32) (v3 : Int32) (M : XM) : Option (Int32 × XM) :=
  κ38 v0 v1 v2 (v3 + (1 : Int32)) M
set_option maxRecDepth 20000 in
set_option maxHeartbeats 4000000 in
theorem t_X9_evenings_155 (l : Launch) {κ38 : Nat → Int32 → Int32 → Int32 → XM → Option (Int32 × XM)} {v0 : Nat} {v1 : Int32} {v2 : Int32} {v3 : Int32} {M : XM} {q : Int32 × XM} (hκ38 : ∀ (v0 : Nat) (v1 : Int32) (v2 : Int32) (v3 : Int32) (M : XM), κ38 v0 v1 v2 v3 M = some q → AW l m_X9_evenings 3 0 0 (x_Ri q) 0 0 38 [some (.ref v0), some (.int v1), some (.int v2), some (.int v3), none, none] [] M) (H : f_X9_evenings_155 κ38 v0 v1 v2 v3 M = some q) : AW l m_X9_evenings 3 0 0 (x_Ri q) 0 0 155 [some (.ref v0), some (.int v1), some (.int v2), some (.int v3), none, none] [] M := by
  unfold f_X9_evenings_155 at H
  refine x_iinc 155 3 (v3 + (1 : Int32)) [some (.ref v0), some (.int v1), some (.int v2), some (.int (v3 + (1 : Int32))), none, none] dX9_evenings_155 rfl (congrArg (fun z : Int32 => v3 + z) (show Int32.ofInt (1) = (1 : Int32) by decide)) rfl (Nat.le_of_ble_eq_true rfl) rfl ?_
  refine x_goto 158 38 dX9_evenings_158 (by decide) ?_
  exact hκ38 _ _ _ _ _ H

def f_X9_evenings_143 (κ38 : Nat → Int32 → Int32 → Int32 → XM → Option (Int32 × XM)) (κ71 : Nat → Int32 → Int32 → Int32 → Int32 → XM → Option (Int32 × XM)) (κ88 : Nat → Int32 → Int32 → Int32 → Int32 → Int32 → XM → Option (Int32 × XM)) (v0 : Nat) (v1 : Int32) (v2 : Int32) (v3 : Int32) (v4 : Int32) (v5 : Int32) (M : XM) : Option (Int32 × XM) :=
  κ88 v0 v1 v2 v3 v4 (v5 + (1 : Int32)) M
set_option maxRecDepth 20000 in
set_option maxHeartbeats 4000000 in
theorem t_X9_evenings_143 (l : Launch) {κ38 : Nat → Int32 → Int32 → Int32 → XM → Option (Int32 × XM)} {κ71 : Nat → Int32 → Int32 → Int32 → Int32 → XM → Option (Int32 × XM)} {κ88 : Nat → Int32 → Int32 → Int32 → Int32 → Int32 → XM → Option (Int32 × XM)} {v0 : Nat} {v1 : Int32} {v2 : Int32} {v3 : Int32} {v4 : Int32} {v5 : Int32} {M : XM} {q : Int32 × XM} (hκ38 : ∀ (v0 : Nat) (v1 : Int32) (v2 : Int32) (v3 : Int32) (M : XM), κ38 v0 v1 v2 v3 M = some q → AW l m_X9_evenings 3 0 0 (x_Ri q) 0 0 38 [some (.ref v0), some (.int v1), some (.int v2), some (.int v3), none, none] [] M) (hκ71 : ∀ (v0 : Nat) (v1 : Int32) (v2 : Int32) (v3 : Int32) (v4 : Int32) (M : XM), κ71 v0 v1 v2 v3 v4 M = some q → AW l m_X9_evenings 3 0 0 (x_Ri q) 0 0 71 [some (.ref v0), some (.int v1), some (.int v2), some (.int v3), some (.int v4), none] [] M) (hκ88 : ∀ (v0 : Nat) (v1 : Int32) (v2 : Int32) (v3 : Int32) (v4 : Int32) (v5 : Int32) (M : XM), κ88 v0 v1 v2 v3 v4 v5 M = some q → AW l m_X9_evenings 3 0 0 (x_Ri q) 0 0 88 [some (.ref v0), some (.int v1), some (.int v2), some (.int v3), some (.int v4), some (.int v5)] [] M) (H : f_X9_evenings_143 κ38 κ71 κ88 v0 v1 v2 v3 v4 v5 M = some q) : AW l m_X9_evenings 3 0 0 (x_Ri q) 0 0 143 [some (.ref v0), some (.int v1), some (.int v2), some (.int v3), some (.int v4), some (.int v5)] [] M := by
  unfold f_X9_evenings_143 at H
  refine x_iinc 143 5 (v5 + (1 : Int32)) [some (.ref v0), some (.int v1), some (.int v2), some (.int v3), some (.int v4), some (.int (v5 + (1 : Int32)))] dX9_evenings_143 rfl (congrArg (fun z : Int32 => v5 + z) (show Int32.ofInt (1) = (1 : Int32) by decide)) rfl (Nat.le_of_ble_eq_true rfl) rfl ?_
  refine x_goto 146 88 dX9_evenings_146 (by decide) ?_
  exact hκ88 _ _ _ _ _ _ _ H

def f_X9_evenings_c140 (κ38 : Nat → Int32 → Int32 → Int32 → XM → Option (Int32 × XM)) (κ71 : Nat → Int32 → Int32 → Int32 → Int32 → XM → Option (Int32 × XM)) (κ88 : Nat → Int32 → Int32 → Int32 → Int32 → Int32 → XM → Option (Int32 × XM)) (v0 : Nat) (v1 : Int32) (v2 : Int32) (v3 : Int32) (v4 : Int32) (v5 : Int32) (M : XM) : Option (Int32 × XM) :=
  f_X9_evenings_143 κ38 κ71 κ88 v0 v1 v2 v3 v4 v5 M
set_option maxRecDepth 20000 in
set_option maxHeartbeats 4000000 in
theorem t_X9_evenings_c140 (l : Launch) {κ38 : Nat → Int32 → Int32 → Int32 → XM → Option (Int32 × XM)} {κ71 : Nat → Int32 → Int32 → Int32 → Int32 → XM → Option (Int32 × XM)} {κ88 : Nat → Int32 → Int32 → Int32 → Int32 → Int32 → XM → Option (Int32 × XM)} {v0 : Nat} {v1 : Int32} {v2 : Int32} {v3 : Int32} {v4 : Int32} {v5 : Int32} {M : XM} {q : Int32 × XM} (hκ38 : ∀ (v0 : Nat) (v1 : Int32) (v2 : Int32) (v3 : Int32) (M : XM), κ38 v0 v1 v2 v3 M = some q → AW l m_X9_evenings 3 0 0 (x_Ri q) 0 0 38 [some (.ref v0), some (.int v1), some (.int v2), some (.int v3), none, none] [] M) (hκ71 : ∀ (v0 : Nat) (v1 : Int32) (v2 : Int32) (v3 : Int32) (v4 : Int32) (M : XM), κ71 v0 v1 v2 v3 v4 M = some q → AW l m_X9_evenings 3 0 0 (x_Ri q) 0 0 71 [some (.ref v0), some (.int v1), some (.int v2), some (.int v3), some (.int v4), none] [] M) (hκ88 : ∀ (v0 : Nat) (v1 : Int32) (v2 : Int32) (v3 : Int32) (v4 : Int32) (v5 : Int32) (M : XM), κ88 v0 v1 v2 v3 v4 v5 M = some q → AW l m_X9_evenings 3 0 0 (x_Ri q) 0 0 88 [some (.ref v0), some (.int v1), some (.int v2), some (.int v3), some (.int v4), some (.int v5)] [] M) (H : f_X9_evenings_c140 κ38 κ71 κ88 v0 v1 v2 v3 v4 v5 M = some q) : AW l m_X9_evenings 3 0 0 (x_Ri q) 0 0 143 [some (.ref v0), some (.int v1), some (.int v2), some (.int v3), some (.int v4), some (.int v5)] [] M := by
  unfold f_X9_evenings_c140 at H
  exact t_X9_evenings_143 l hκ38 hκ71 hκ88 H

def f_X9_evenings_c131 (κ38 : Nat → Int32 → Int32 → Int32 → XM → Option (Int32 × XM)) (κ71 : Nat → Int32 → Int32 → Int32 → Int32 → XM → Option (Int32 × XM)) (κ88 : Nat → Int32 → Int32 → Int32 → Int32 → Int32 → XM → Option (Int32 × XM)) (v0 : Nat) (v1 : Int32) (v2 : Int32) (v3 : Int32) (v4 : Int32) (v5 : Int32) (M : XM) : Option (Int32 × XM) :=
  f_X9_evenings_143 κ38 κ71 κ88 v0 v1 v2 v3 v4 v5 M
set_option maxRecDepth 20000 in
set_option maxHeartbeats 4000000 in
theorem t_X9_evenings_c131 (l : Launch) {κ38 : Nat → Int32 → Int32 → Int32 → XM → Option (Int32 × XM)} {κ71 : Nat → Int32 → Int32 → Int32 → Int32 → XM → Option (Int32 × XM)} {κ88 : Nat → Int32 → Int32 → Int32 → Int32 → Int32 → XM → Option (Int32 × XM)} {v0 : Nat} {v1 : Int32} {v2 : Int32} {v3 : Int32} {v4 : Int32} {v5 : Int32} {M : XM} {q : Int32 × XM} (hκ38 : ∀ (v0 : Nat) (v1 : Int32) (v2 : Int32) (v3 : Int32) (M : XM), κ38 v0 v1 v2 v3 M = some q → AW l m_X9_evenings 3 0 0 (x_Ri q) 0 0 38 [some (.ref v0), some (.int v1), some (.int v2), some (.int v3), none, none] [] M) (hκ71 : ∀ (v0 : Nat) (v1 : Int32) (v2 : Int32) (v3 : Int32) (v4 : Int32) (M : XM), κ71 v0 v1 v2 v3 v4 M = some q → AW l m_X9_evenings 3 0 0 (x_Ri q) 0 0 71 [some (.ref v0), some (.int v1), some (.int v2), some (.int v3), some (.int v4), none] [] M) (hκ88 : ∀ (v0 : Nat) (v1 : Int32) (v2 : Int32) (v3 : Int32) (v4 : Int32) (v5 : Int32) (M : XM), κ88 v0 v1 v2 v3 v4 v5 M = some q → AW l m_X9_evenings 3 0 0 (x_Ri q) 0 0 88 [some (.ref v0), some (.int v1), some (.int v2), some (.int v3), some (.int v4), some (.int v5)] [] M) (H : f_X9_evenings_c131 κ38 κ71 κ88 v0 v1 v2 v3 v4 v5 M = some q) : AW l m_X9_evenings 3 0 0 (x_Ri q) 0 0 134 [some (.ref v0), some (.int v1), some (.int v2), some (.int v3), some (.int v4), some (.int v5)] [] M := by
  unfold f_X9_evenings_c131 at H
  refine x_goto 134 143 dX9_evenings_134 (by decide) ?_
  exact t_X9_evenings_143 l hκ38 hκ71 hκ88 H

def f_X9_evenings_c118 (κ38 : Nat → Int32 → Int32 → Int32 → XM → Option (Int32 × XM)) (κ71 : Nat → Int32 → Int32 → Int32 → Int32 → XM → Option (Int32 × XM)) (κ88 : Nat → Int32 → Int32 → Int32 → Int32 → Int32 → XM → Option (Int32 × XM)) (v0 : Nat) (v1 : Int32) (v2 : Int32) (v3 : Int32) (v4 : Int32) (v5 : Int32) (s0 : Int32) (M : XM) : Option (Int32 × XM) :=
  if x_tag M v0 = 9 + 10 then (if (x_i M v0 3) ≤ s0 then (x_bv (f_X9_counts v0 v5 M) (f_X9_evenings_c140 κ38 κ71 κ88 v0 v1 v2 v3 v4 v5)) else (x_bv (f_X9_breaksOff v0 v5 M) (f_X9_evenings_c131 κ38 κ71 κ88 v0 v1 v2 v3 v4 v5))) else none
set_option maxRecDepth 20000 in
set_option maxHeartbeats 4000000 in
theorem t_X9_evenings_c118 (l : Launch) {κ38 : Nat → Int32 → Int32 → Int32 → XM → Option (Int32 × XM)} {κ71 : Nat → Int32 → Int32 → Int32 → Int32 → XM → Option (Int32 × XM)} {κ88 : Nat → Int32 → Int32 → Int32 → Int32 → Int32 → XM → Option (Int32 × XM)} {v0 : Nat} {v1 : Int32} {v2 : Int32} {v3 : Int32} {v4 : Int32} {v5 : Int32} {s0 : Int32} {M : XM} {q : Int32 × XM} (hκ38 : ∀ (v0 : Nat) (v1 : Int32) (v2 : Int32) (v3 : Int32) (M : XM), κ38 v0 v1 v2 v3 M = some q → AW l m_X9_evenings 3 0 0 (x_Ri q) 0 0 38 [some (.ref v0), some (.int v1), some (.int v2), some (.int v3), none, none] [] M) (hκ71 : ∀ (v0 : Nat) (v1 : Int32) (v2 : Int32) (v3 : Int32) (v4 : Int32) (M : XM), κ71 v0 v1 v2 v3 v4 M = some q → AW l m_X9_evenings 3 0 0 (x_Ri q) 0 0 71 [some (.ref v0), some (.int v1), some (.int v2), some (.int v3), some (.int v4), none] [] M) (hκ88 : ∀ (v0 : Nat) (v1 : Int32) (v2 : Int32) (v3 : Int32) (v4 : Int32) (v5 : Int32) (M : XM), κ88 v0 v1 v2 v3 v4 v5 M = some q → AW l m_X9_evenings 3 0 0 (x_Ri q) 0 0 88 [some (.ref v0), some (.int v1), some (.int v2), some (.int v3), some (.int v4), some (.int v5)] [] M) (H : f_X9_evenings_c118 κ38 κ71 κ88 v0 v1 v2 v3 v4 v5 s0 M = some q) : AW l m_X9_evenings 3 0 0 (x_Ri q) 0 0 121 [some (.ref v0), some (.int v1), some (.int v2), some (.int v3), some (.int v4), some (.int v5)] [(.int s0)] M := by
  unfold f_X9_evenings_c118 at H
  refine x_aload_n 121 0 dX9_evenings_121 rfl rfl ?_
  obtain ⟨h29, H⟩ := x_ckp H
  refine x_getf 122 16 9 3 (.int (x_i M v0 3)) dX9_evenings_122 lk_1033 (by decide) (by decide) rfl (fun _ => rfl) h29 ?_
  refine x_icmp_ge 125 137 dX9_evenings_125 (by decide) (fun c30 => ?_) (fun c30 => ?_)
  · replace H := x_ifp c30 H
    refine x_aload_n 137 0 dX9_evenings_137 rfl rfl ?_
    refine x_iload 138 5 dX9_evenings_138 rfl ?_
    obtain ⟨M31, e33, H⟩ := x_bv_of H
    refine x_callV 140 270 9 [(.int v5)] [] dX9_evenings_140 (ct_X9_counts l e33) lk_1444 lk_1446 lk_76 (by decide) h29 lk_94 lk_1447 ⟨cn_X9_counts, (by decide), by decide⟩ rfl (Nat.le_of_ble_eq_true rfl) (Nat.le_of_ble_eq_true rfl) (Nat.le_of_ble_eq_true rfl) (x_rv ?_)
    exact t_X9_evenings_c140 l hκ38 hκ71 hκ88 H
  · replace H := x_ifn c30 H
    refine x_aload_n 128 0 dX9_evenings_128 rfl rfl ?_
    refine x_iload 129 5 dX9_evenings_129 rfl ?_
    obtain ⟨M34, e36, H⟩ := x_bv_of H
    refine x_callV 131 163 9 [(.int v5)] [] dX9_evenings_131 (ct_X9_breaksOff l e36) lk_1269 lk_1271 lk_52 (by decide) h29 lk_94 lk_1272 ⟨cn_X9_breaksOff, (by decide), by decide⟩ rfl (Nat.le_of_ble_eq_true rfl) (Nat.le_of_ble_eq_true rfl) (Nat.le_of_ble_eq_true rfl) (x_rv ?_)
    exact t_X9_evenings_c131 l hκ38 hκ71 hκ88 H

def bd_X9_evenings_88 (κ38 : Nat → Int32 → Int32 → Int32 → XM → Option (Int32 × XM)) (κ71 : Nat → Int32 → Int32 → Int32 → Int32 → XM → Option (Int32 × XM)) (κ88 : Nat → Int32 → Int32 → Int32 → Int32 → Int32 → XM → Option (Int32 × XM)) (v0 : Nat) (v1 : Int32) (v2 : Int32) (v3 : Int32) (v4 : Int32) (v5 : Int32) (M : XM) : Option (Int32 × XM) :=
  if x_tag M v0 = 9 + 10 then (if (x_i M v0 0) ≤ v5 then (κ71 v0 v1 v2 v3 (v4 + (1 : Int32)) M) else (if x_at M (x_r M v0 12) 1 v5 = true then (if (x_i M (x_r M v0 12) v5.toNatClampNeg) = (x_i M v0 1) then (f_X9_evenings_143 κ38 κ71 κ88 v0 v1 v2 v3 v4 v5 M) else (x_bd (f_X9_draw v0 (1000 : Int32) M) (f_X9_evenings_c118 κ38 κ71 κ88 v0 v1 v2 v3 v4 v5))) else none)) else none
set_option maxRecDepth 20000 in
set_option maxHeartbeats 4000000 in
theorem tb_X9_evenings_88 (l : Launch) {κ38 : Nat → Int32 → Int32 → Int32 → XM → Option (Int32 × XM)} {κ71 : Nat → Int32 → Int32 → Int32 → Int32 → XM → Option (Int32 × XM)} {κ88 : Nat → Int32 → Int32 → Int32 → Int32 → Int32 → XM → Option (Int32 × XM)} {v0 : Nat} {v1 : Int32} {v2 : Int32} {v3 : Int32} {v4 : Int32} {v5 : Int32} {M : XM} {q : Int32 × XM} (hκ38 : ∀ (v0 : Nat) (v1 : Int32) (v2 : Int32) (v3 : Int32) (M : XM), κ38 v0 v1 v2 v3 M = some q → AW l m_X9_evenings 3 0 0 (x_Ri q) 0 0 38 [some (.ref v0), some (.int v1), some (.int v2), some (.int v3), none, none] [] M) (hκ71 : ∀ (v0 : Nat) (v1 : Int32) (v2 : Int32) (v3 : Int32) (v4 : Int32) (M : XM), κ71 v0 v1 v2 v3 v4 M = some q → AW l m_X9_evenings 3 0 0 (x_Ri q) 0 0 71 [some (.ref v0), some (.int v1), some (.int v2), some (.int v3), some (.int v4), none] [] M) (hκ88 : ∀ (v0 : Nat) (v1 : Int32) (v2 : Int32) (v3 : Int32) (v4 : Int32) (v5 : Int32) (M : XM), κ88 v0 v1 v2 v3 v4 v5 M = some q → AW l m_X9_evenings 3 0 0 (x_Ri q) 0 0 88 [some (.ref v0), some (.int v1), some (.int v2), some (.int v3), some (.int v4), some (.int v5)] [] M) (H : bd_X9_evenings_88 κ38 κ71 κ88 v0 v1 v2 v3 v4 v5 M = some q) : AW l m_X9_evenings 3 0 0 (x_Ri q) 0 0 88 [some (.ref v0), some (.int v1), some (.int v2), some (.int v3), some (.int v4), some (.int v5)] [] M := by
  unfold bd_X9_evenings_88 at H
  refine x_iload 88 5 dX9_evenings_88 rfl ?_
  refine x_aload_n 90 0 dX9_evenings_90 rfl rfl ?_
  obtain ⟨h22, H⟩ := x_ckp H
  refine x_getf 91 93 9 0 (.int (x_i M v0 0)) dX9_evenings_91 lk_1030 (by decide) (by decide) rfl (fun _ => rfl) h22 ?_
  refine x_icmp_ge 94 149 dX9_evenings_94 (by decide) (fun c23 => ?_) (fun c23 => ?_)
  · replace H := x_ifp c23 H
    refine x_iinc 149 4 (v4 + (1 : Int32)) [some (.ref v0), some (.int v1), some (.int v2), some (.int v3), some (.int (v4 + (1 : Int32))), some (.int v5)] dX9_evenings_149 rfl (congrArg (fun z : Int32 => v4 + z) (show Int32.ofInt (1) = (1 : Int32) by decide)) rfl (Nat.le_of_ble_eq_true rfl) rfl ?_
    refine x_goto 152 71 dX9_evenings_152 (by decide) ?_
    exact x_wk (le_s (le_s (le_s (le_s (le_s (le_n le_0)))))) (hκ71 _ _ _ _ _ _ H)
  · replace H := x_ifn c23 H
    refine x_aload_n 97 0 dX9_evenings_97 rfl rfl ?_
    refine x_getf 98 38 9 12 (.ref (x_r M v0 12)) dX9_evenings_98 lk_1042 (by decide) (by decide) rfl (fun _ => rfl) h22 ?_
    refine x_iload 101 5 dX9_evenings_101 rfl ?_
    obtain ⟨h24, H⟩ := x_ckp H
    refine x_iald 103 dX9_evenings_103 h24 ?_
    refine x_aload_n 104 0 dX9_evenings_104 rfl rfl ?_
    refine x_getf 105 7 9 1 (.int (x_i M v0 1)) dX9_evenings_105 lk_1031 (by decide) (by decide) rfl (fun _ => rfl) h22 ?_
    refine x_icmp_ne 108 114 dX9_evenings_108 (by decide) (fun c25 => ?_) (fun c25 => ?_)
    · replace H := x_ifn c25 H
      refine x_aload_n 114 0 dX9_evenings_114 rfl rfl ?_
      refine x_sipush 115 (1000 : Int32) dX9_evenings_115 (by decide) ?_
      obtain ⟨r27, M26, e28, H⟩ := x_bd_of H
      refine x_callV 118 280 9 [(.int (1000 : Int32))] [] dX9_evenings_118 (ct_X9_draw l e28) lk_1468 lk_1470 lk_79 (by decide) h22 lk_94 lk_1471 ⟨cn_X9_draw, (by decide), by decide⟩ rfl (Nat.le_of_ble_eq_true rfl) (Nat.le_of_ble_eq_true rfl) (Nat.le_of_ble_eq_true rfl) (x_ri ?_)
      exact t_X9_evenings_c118 l hκ38 hκ71 hκ88 H
    · replace H := x_ifp c25 H
      refine x_goto 111 143 dX9_evenings_111 (by decide) ?_
      exact t_X9_evenings_143 l hκ38 hκ71 hκ88 H

def lp_X9_evenings_88 (κ38 : Nat → Int32 → Int32 → Int32 → XM → Option (Int32 × XM)) (κ71 : Nat → Int32 → Int32 → Int32 → Int32 → XM → Option (Int32 × XM)) (n : Nat) : Nat → Int32 → Int32 → Int32 → Int32 → Int32 → XM → Option (Int32 × XM) := x_rec (fun _ _ _ _ _ _ _ => none) (bd_X9_evenings_88 κ38 κ71) n
theorem t_X9_evenings_88 (l : Launch) {κ38 : Nat → Int32 → Int32 → Int32 → XM → Option (Int32 × XM)} {κ71 : Nat → Int32 → Int32 → Int32 → Int32 → XM → Option (Int32 × XM)} {q : Int32 × XM} (hκ38 : ∀ (v0 : Nat) (v1 : Int32) (v2 : Int32) (v3 : Int32) (M : XM), κ38 v0 v1 v2 v3 M = some q → AW l m_X9_evenings 3 0 0 (x_Ri q) 0 0 38 [some (.ref v0), some (.int v1), some (.int v2), some (.int v3), none, none] [] M) (hκ71 : ∀ (v0 : Nat) (v1 : Int32) (v2 : Int32) (v3 : Int32) (v4 : Int32) (M : XM), κ71 v0 v1 v2 v3 v4 M = some q → AW l m_X9_evenings 3 0 0 (x_Ri q) 0 0 71 [some (.ref v0), some (.int v1), some (.int v2), some (.int v3), some (.int v4), none] [] M) : ∀ (n : Nat) (v0 : Nat) (v1 : Int32) (v2 : Int32) (v3 : Int32) (v4 : Int32) (v5 : Int32) (M : XM), lp_X9_evenings_88 κ38 κ71 n v0 v1 v2 v3 v4 v5 M = some q → AW l m_X9_evenings 3 0 0 (x_Ri q) 0 0 88 [some (.ref v0), some (.int v1), some (.int v2), some (.int v3), some (.int v4), some (.int v5)] [] M := by
  intro n
  induction n with
  | zero => intro v0 v1 v2 v3 v4 v5 M H; cases H
  | succ n ih => intro v0 v1 v2 v3 v4 v5 M H; exact tb_X9_evenings_88 l hκ38 hκ71 ih H
def f_X9_evenings_c79 (κ38 : Nat → Int32 → Int32 → Int32 → XM → Option (Int32 × XM)) (κ71 : Nat → Int32 → Int32 → Int32 → Int32 → XM → Option (Int32 × XM)) (v0 : Nat) (v1 : Int32) (v2 : Int32) (v3 : Int32) (v4 : Int32) (s0 : Int32) (M : XM) : Option (Int32 × XM) :=
  if s0 = 0 then (lp_X9_evenings_88 κ38 κ71 x_fuel v0 v1 v2 v3 v4 (0 : Int32) M) else (f_X9_evenings_155 κ38 v0 v1 v2 v3 M)
set_option maxRecDepth 20000 in
set_option maxHeartbeats 4000000 in
theorem t_X9_evenings_c79 (l : Launch) {κ38 : Nat → Int32 → Int32 → Int32 → XM → Option (Int32 × XM)} {κ71 : Nat → Int32 → Int32 → Int32 → Int32 → XM → Option (Int32 × XM)} {v0 : Nat} {v1 : Int32} {v2 : Int32} {v3 : Int32} {v4 : Int32} {s0 : Int32} {M : XM} {q : Int32 × XM} (hκ38 : ∀ (v0 : Nat) (v1 : Int32) (v2 : Int32) (v3 : Int32) (M : XM), κ38 v0 v1 v2 v3 M = some q → AW l m_X9_evenings 3 0 0 (x_Ri q) 0 0 38 [some (.ref v0), some (.int v1), some (.int v2), some (.int v3), none, none] [] M) (hκ71 : ∀ (v0 : Nat) (v1 : Int32) (v2 : Int32) (v3 : Int32) (v4 : Int32) (M : XM), κ71 v0 v1 v2 v3 v4 M = some q → AW l m_X9_evenings 3 0 0 (x_Ri q) 0 0 71 [some (.ref v0), some (.int v1), some (.int v2), some (.int v3), some (.int v4), none] [] M) (H : f_X9_evenings_c79 κ38 κ71 v0 v1 v2 v3 v4 s0 M = some q) : AW l m_X9_evenings 3 0 0 (x_Ri q) 0 0 82 [some (.ref v0), some (.int v1), some (.int v2), some (.int v3), some (.int v4), none] [(.int s0)] M := by
  unfold f_X9_evenings_c79 at H
  refine x_if_ne 82 155 dX9_evenings_82 (by decide) (fun c21 => ?_) (fun c21 => ?_)
  · replace H := x_ifn c21 H
    exact x_wk (le_s (le_s (le_s (le_s (le_n (le_s le_0)))))) (t_X9_evenings_155 l hκ38 H)
  · replace H := x_ifp c21 H
    refine x_iconst 85 (0 : Int32) dX9_evenings_85 (by decide) ?_
    refine x_istore 86 5 [some (.ref v0), some (.int v1), some (.int v2), some (.int v3), some (.int v4), some (.int (0 : Int32))] dX9_evenings_86 rfl (Nat.le_of_ble_eq_true rfl) rfl ?_
    exact t_X9_evenings_88 l hκ38 hκ71 _ _ _ _ _ _ _ _ H

def bd_X9_evenings_71 (κ38 : Nat → Int32 → Int32 → Int32 → XM → Option (Int32 × XM)) (κ71 : Nat → Int32 → Int32 → Int32 → Int32 → XM → Option (Int32 × XM)) (v0 : Nat) (v1 : Int32) (v2 : Int32) (v3 : Int32) (v4 : Int32) (M : XM) : Option (Int32 × XM) :=
  if (60 : Int32) ≤ v4 then (f_X9_evenings_155 κ38 v0 v1 v2 v3 M) else (if x_tag M v0 = 9 + 10 then (x_bd (f_X9_areThrough v0 M) (f_X9_evenings_c79 κ38 κ71 v0 v1 v2 v3 v4)) else none)
set_option maxRecDepth 20000 in
set_option maxHeartbeats 4000000 in
theorem tb_X9_evenings_71 (l : Launch) {κ38 : Nat → Int32 → Int32 → Int32 → XM → Option (Int32 × XM)} {κ71 : Nat → Int32 → Int32 → Int32 → Int32 → XM → Option (Int32 × XM)} {v0 : Nat} {v1 : Int32} {v2 : Int32} {v3 : Int32} {v4 : Int32} {M : XM} {q : Int32 × XM} (hκ38 : ∀ (v0 : Nat) (v1 : Int32) (v2 : Int32) (v3 : Int32) (M : XM), κ38 v0 v1 v2 v3 M = some q → AW l m_X9_evenings 3 0 0 (x_Ri q) 0 0 38 [some (.ref v0), some (.int v1), some (.int v2), some (.int v3), none, none] [] M) (hκ71 : ∀ (v0 : Nat) (v1 : Int32) (v2 : Int32) (v3 : Int32) (v4 : Int32) (M : XM), κ71 v0 v1 v2 v3 v4 M = some q → AW l m_X9_evenings 3 0 0 (x_Ri q) 0 0 71 [some (.ref v0), some (.int v1), some (.int v2), some (.int v3), some (.int v4), none] [] M) (H : bd_X9_evenings_71 κ38 κ71 v0 v1 v2 v3 v4 M = some q) : AW l m_X9_evenings 3 0 0 (x_Ri q) 0 0 71 [some (.ref v0), some (.int v1), some (.int v2), some (.int v3), some (.int v4), none] [] M := by
  unfold bd_X9_evenings_71 at H
  refine x_iload 71 4 dX9_evenings_71 rfl ?_
  refine x_bipush 73 (60 : Int32) dX9_evenings_73 (by decide) ?_
  refine x_icmp_ge 75 155 dX9_evenings_75 (by decide) (fun c16 => ?_) (fun c16 => ?_)
  · replace H := x_ifp c16 H
    exact x_wk (le_s (le_s (le_s (le_s (le_n (le_s le_0)))))) (t_X9_evenings_155 l hκ38 H)
  · replace H := x_ifn c16 H
    refine x_aload_n 78 0 dX9_evenings_78 rfl rfl ?_
    obtain ⟨h17, H⟩ := x_ckp H
    obtain ⟨r19, M18, e20, H⟩ := x_bd_of H
    refine x_callV 79 277 9 [] [] dX9_evenings_79 (ct_X9_areThrough l e20) lk_1464 lk_1466 lk_78 (by decide) h17 lk_94 lk_1467 ⟨cn_X9_areThrough, (by decide), by decide⟩ rfl (Nat.le_of_ble_eq_true rfl) (Nat.le_of_ble_eq_true rfl) (Nat.le_of_ble_eq_true rfl) (x_ri ?_)
    exact t_X9_evenings_c79 l hκ38 hκ71 H

def lp_X9_evenings_71 (κ38 : Nat → Int32 → Int32 → Int32 → XM → Option (Int32 × XM)) (n : Nat) : Nat → Int32 → Int32 → Int32 → Int32 → XM → Option (Int32 × XM) := x_rec (fun _ _ _ _ _ _ => none) (bd_X9_evenings_71 κ38) n
theorem t_X9_evenings_71 (l : Launch) {κ38 : Nat → Int32 → Int32 → Int32 → XM → Option (Int32 × XM)} {q : Int32 × XM} (hκ38 : ∀ (v0 : Nat) (v1 : Int32) (v2 : Int32) (v3 : Int32) (M : XM), κ38 v0 v1 v2 v3 M = some q → AW l m_X9_evenings 3 0 0 (x_Ri q) 0 0 38 [some (.ref v0), some (.int v1), some (.int v2), some (.int v3), none, none] [] M) : ∀ (n : Nat) (v0 : Nat) (v1 : Int32) (v2 : Int32) (v3 : Int32) (v4 : Int32) (M : XM), lp_X9_evenings_71 κ38 n v0 v1 v2 v3 v4 M = some q → AW l m_X9_evenings 3 0 0 (x_Ri q) 0 0 71 [some (.ref v0), some (.int v1), some (.int v2), some (.int v3), some (.int v4), none] [] M := by
  intro n
  induction n with
  | zero => intro v0 v1 v2 v3 v4 M H; cases H
  | succ n ih => intro v0 v1 v2 v3 v4 M H; exact tb_X9_evenings_71 l hκ38 ih H
def f_X9_evenings_c58 (κ38 : Nat → Int32 → Int32 → Int32 → XM → Option (Int32 × XM)) (κ46 : Nat → Int32 → Int32 → Int32 → Int32 → XM → Option (Int32 × XM)) (v0 : Nat) (v1 : Int32) (v2 : Int32) (v3 : Int32) (v4 : Int32) (s0 : Int32) (M : XM) : Option (Int32 × XM) :=
  κ46 v0 v1 v2 v3 (v4 + (1 : Int32)) M
set_option maxRecDepth 20000 in
set_option maxHeartbeats 4000000 in
theorem t_X9_evenings_c58 (l : Launch) {κ38 : Nat → Int32 → Int32 → Int32 → XM → Option (Int32 × XM)} {κ46 : Nat → Int32 → Int32 → Int32 → Int32 → XM → Option (Int32 × XM)} {v0 : Nat} {v1 : Int32} {v2 : Int32} {v3 : Int32} {v4 : Int32} {s0 : Int32} {M : XM} {q : Int32 × XM} (hκ38 : ∀ (v0 : Nat) (v1 : Int32) (v2 : Int32) (v3 : Int32) (M : XM), κ38 v0 v1 v2 v3 M = some q → AW l m_X9_evenings 3 0 0 (x_Ri q) 0 0 38 [some (.ref v0), some (.int v1), some (.int v2), some (.int v3), none, none] [] M) (hκ46 : ∀ (v0 : Nat) (v1 : Int32) (v2 : Int32) (v3 : Int32) (v4 : Int32) (M : XM), κ46 v0 v1 v2 v3 v4 M = some q → AW l m_X9_evenings 3 0 0 (x_Ri q) 0 0 46 [some (.ref v0), some (.int v1), some (.int v2), some (.int v3), some (.int v4), none] [] M) (H : f_X9_evenings_c58 κ38 κ46 v0 v1 v2 v3 v4 s0 M = some q) : AW l m_X9_evenings 3 0 0 (x_Ri q) 0 0 61 [some (.ref v0), some (.int v1), some (.int v2), some (.int v3), some (.int v4), none] [(.int s0)] M := by
  unfold f_X9_evenings_c58 at H
  refine x_pop 61 dX9_evenings_61 rfl ?_
  refine x_iinc 62 4 (v4 + (1 : Int32)) [some (.ref v0), some (.int v1), some (.int v2), some (.int v3), some (.int (v4 + (1 : Int32))), none] dX9_evenings_62 rfl (congrArg (fun z : Int32 => v4 + z) (show Int32.ofInt (1) = (1 : Int32) by decide)) rfl (Nat.le_of_ble_eq_true rfl) rfl ?_
  refine x_goto 65 46 dX9_evenings_65 (by decide) ?_
  exact hκ46 _ _ _ _ _ _ H

def bd_X9_evenings_46 (κ38 : Nat → Int32 → Int32 → Int32 → XM → Option (Int32 × XM)) (κ46 : Nat → Int32 → Int32 → Int32 → Int32 → XM → Option (Int32 × XM)) (v0 : Nat) (v1 : Int32) (v2 : Int32) (v3 : Int32) (v4 : Int32) (M : XM) : Option (Int32 × XM) :=
  if x_tag M v0 = 9 + 10 then (if (x_i M v0 0) ≤ v4 then (lp_X9_evenings_71 κ38 x_fuel v0 v1 v2 v3 (0 : Int32) M) else (x_bd (f_X9_anew v0 v4 M) (f_X9_evenings_c58 κ38 κ46 v0 v1 v2 v3 v4))) else none
set_option maxRecDepth 20000 in
set_option maxHeartbeats 4000000 in
theorem tb_X9_evenings_46 (l : Launch) {κ38 : Nat → Int32 → Int32 → Int32 → XM → Option (Int32 × XM)} {κ46 : Nat → Int32 → Int32 → Int32 → Int32 → XM → Option (Int32 × XM)} {v0 : Nat} {v1 : Int32} {v2 : Int32} {v3 : Int32} {v4 : Int32} {M : XM} {q : Int32 × XM} (hκ38 : ∀ (v0 : Nat) (v1 : Int32) (v2 : Int32) (v3 : Int32) (M : XM), κ38 v0 v1 v2 v3 M = some q → AW l m_X9_evenings 3 0 0 (x_Ri q) 0 0 38 [some (.ref v0), some (.int v1), some (.int v2), some (.int v3), none, none] [] M) (hκ46 : ∀ (v0 : Nat) (v1 : Int32) (v2 : Int32) (v3 : Int32) (v4 : Int32) (M : XM), κ46 v0 v1 v2 v3 v4 M = some q → AW l m_X9_evenings 3 0 0 (x_Ri q) 0 0 46 [some (.ref v0), some (.int v1), some (.int v2), some (.int v3), some (.int v4), none] [] M) (H : bd_X9_evenings_46 κ38 κ46 v0 v1 v2 v3 v4 M = some q) : AW l m_X9_evenings 3 0 0 (x_Ri q) 0 0 46 [some (.ref v0), some (.int v1), some (.int v2), some (.int v3), some (.int v4), none] [] M := by
  unfold bd_X9_evenings_46 at H
  refine x_iload 46 4 dX9_evenings_46 rfl ?_
  refine x_aload_n 48 0 dX9_evenings_48 rfl rfl ?_
  obtain ⟨h14, H⟩ := x_ckp H
  refine x_getf 49 93 9 0 (.int (x_i M v0 0)) dX9_evenings_49 lk_1030 (by decide) (by decide) rfl (fun _ => rfl) h14 ?_
  refine x_icmp_ge 52 68 dX9_evenings_52 (by decide) (fun c15 => ?_) (fun c15 => ?_)
  · replace H := x_ifp c15 H
    refine x_iconst 68 (0 : Int32) dX9_evenings_68 (by decide) ?_
    refine x_istore 69 4 [some (.ref v0), some (.int v1), some (.int v2), some (.int v3), some (.int (0 : Int32)), none] dX9_evenings_69 rfl (Nat.le_of_ble_eq_true rfl) rfl ?_
    exact t_X9_evenings_71 l hκ38 _ _ _ _ _ _ _ H
  · replace H := x_ifn c15 H
    refine x_aload_n 55 0 dX9_evenings_55 rfl rfl ?_
    refine x_iload 56 4 dX9_evenings_56 rfl ?_
    obtain ⟨r38, M37, e39, H⟩ := x_bd_of H
    refine x_callV 58 273 9 [(.int v4)] [] dX9_evenings_58 (ct_X9_anew l e39) lk_1456 lk_1458 lk_77 (by decide) h14 lk_94 lk_1459 ⟨cn_X9_anew, (by decide), by decide⟩ rfl (Nat.le_of_ble_eq_true rfl) (Nat.le_of_ble_eq_true rfl) (Nat.le_of_ble_eq_true rfl) (x_ri ?_)
    exact t_X9_evenings_c58 l hκ38 hκ46 H

def lp_X9_evenings_46 (κ38 : Nat → Int32 → Int32 → Int32 → XM → Option (Int32 × XM)) (n : Nat) : Nat → Int32 → Int32 → Int32 → Int32 → XM → Option (Int32 × XM) := x_rec (fun _ _ _ _ _ _ => none) (bd_X9_evenings_46 κ38) n
theorem t_X9_evenings_46 (l : Launch) {κ38 : Nat → Int32 → Int32 → Int32 → XM → Option (Int32 × XM)} {q : Int32 × XM} (hκ38 : ∀ (v0 : Nat) (v1 : Int32) (v2 : Int32) (v3 : Int32) (M : XM), κ38 v0 v1 v2 v3 M = some q → AW l m_X9_evenings 3 0 0 (x_Ri q) 0 0 38 [some (.ref v0), some (.int v1), some (.int v2), some (.int v3), none, none] [] M) : ∀ (n : Nat) (v0 : Nat) (v1 : Int32) (v2 : Int32) (v3 : Int32) (v4 : Int32) (M : XM), lp_X9_evenings_46 κ38 n v0 v1 v2 v3 v4 M = some q → AW l m_X9_evenings 3 0 0 (x_Ri q) 0 0 46 [some (.ref v0), some (.int v1), some (.int v2), some (.int v3), some (.int v4), none] [] M := by
  intro n
  induction n with
  | zero => intro v0 v1 v2 v3 v4 M H; cases H
  | succ n ih => intro v0 v1 v2 v3 v4 M H; exact tb_X9_evenings_46 l hκ38 ih H
def bd_X9_evenings_38 (κ38 : Nat → Int32 → Int32 → Int32 → XM → Option (Int32 × XM)) (v0 : Nat) (v1 : Int32) (v2 : Int32) (v3 : Int32) (M : XM) : Option (Int32 × XM) :=
  if v1 ≤ v3 then (if x_tag M v0 = 9 + 10 then (some (((x_i M v0 5) - v2), M)) else none) else (lp_X9_evenings_46 κ38 x_fuel v0 v1 v2 v3 (0 : Int32) M)
set_option maxRecDepth 20000 in
set_option maxHeartbeats 4000000 in
theorem tb_X9_evenings_38 (l : Launch) {κ38 : Nat → Int32 → Int32 → Int32 → XM → Option (Int32 × XM)} {v0 : Nat} {v1 : Int32} {v2 : Int32} {v3 : Int32} {M : XM} {q : Int32 × XM} (hκ38 : ∀ (v0 : Nat) (v1 : Int32) (v2 : Int32) (v3 : Int32) (M : XM), κ38 v0 v1 v2 v3 M = some q → AW l m_X9_evenings 3 0 0 (x_Ri q) 0 0 38 [some (.ref v0), some (.int v1), some (.int v2), some (.int v3), none, none] [] M) (H : bd_X9_evenings_38 κ38 v0 v1 v2 v3 M = some q) : AW l m_X9_evenings 3 0 0 (x_Ri q) 0 0 38 [some (.ref v0), some (.int v1), some (.int v2), some (.int v3), none, none] [] M := by
  unfold bd_X9_evenings_38 at H
  refine x_iload_n 38 3 dX9_evenings_38 rfl rfl ?_
  refine x_iload_n 39 1 dX9_evenings_39 rfl rfl ?_
  refine x_icmp_ge 40 161 dX9_evenings_40 (by decide) (fun c12 => ?_) (fun c12 => ?_)
  · replace H := x_ifp c12 H
    refine x_aload_n 161 0 dX9_evenings_161 rfl rfl ?_
    obtain ⟨h13, H⟩ := x_ckp H
    refine x_getf 162 173 9 5 (.int (x_i M v0 5)) dX9_evenings_162 lk_1035 (by decide) (by decide) rfl (fun _ => rfl) h13 ?_
    refine x_iload_n 165 2 dX9_evenings_165 rfl rfl ?_
    refine x_isub 166 dX9_evenings_166 ?_
    cases H
    exact x_iret 167 dX9_evenings_167 .int rfl rfl (Nat.le_of_ble_eq_true rfl) (Nat.le_of_ble_eq_true rfl) ⟨rfl, rfl⟩
  · replace H := x_ifn c12 H
    refine x_iconst 43 (0 : Int32) dX9_evenings_43 (by decide) ?_
    refine x_istore 44 4 [some (.ref v0), some (.int v1), some (.int v2), some (.int v3), some (.int (0 : Int32)), none] dX9_evenings_44 rfl (Nat.le_of_ble_eq_true rfl) rfl ?_
    exact t_X9_evenings_46 l hκ38 _ _ _ _ _ _ _ H

def lp_X9_evenings_38 (n : Nat) : Nat → Int32 → Int32 → Int32 → XM → Option (Int32 × XM) := x_rec (fun _ _ _ _ _ => none) (bd_X9_evenings_38) n
theorem t_X9_evenings_38 (l : Launch) {q : Int32 × XM} : ∀ (n : Nat) (v0 : Nat) (v1 : Int32) (v2 : Int32) (v3 : Int32) (M : XM), lp_X9_evenings_38 n v0 v1 v2 v3 M = some q → AW l m_X9_evenings 3 0 0 (x_Ri q) 0 0 38 [some (.ref v0), some (.int v1), some (.int v2), some (.int v3), none, none] [] M := by
  intro n
  induction n with
  | zero => intro v0 v1 v2 v3 M H; cases H
  | succ n ih => intro v0 v1 v2 v3 M H; exact tb_X9_evenings_38 l ih H
def f_X9_evenings (v0 : Nat) (v1 : Int32) (M : XM) : Option (Int32 × XM) :=
  if x_tag M v0 = 9 + 10 then (if (x_i M v0 0) = 0 then (x_bd (f_X9_no v0 (-5 : Int32) M) (fun r4 M3 => some (r4, M3))) else (if v1 < (1 : Int32) then (f_X9_evenings_24 v0 M) else (if v1 ≤ (5 : Int32) then (lp_X9_evenings_38 x_fuel v0 v1 (x_i M v0 5) (0 : Int32) M) else (f_X9_evenings_24 v0 M)))) else none
set_option maxRecDepth 20000 in
set_option maxHeartbeats 4000000 in
theorem t_X9_evenings (l : Launch) {v0 : Nat} {v1 : Int32} {M : XM} {q : Int32 × XM} (H : f_X9_evenings v0 v1 M = some q) : AW l m_X9_evenings 3 0 0 (x_Ri q) 0 0 0 [some (.ref v0), some (.int v1), none, none, none, none] [] M := by
  unfold f_X9_evenings at H
  refine x_aload_n 0 0 dX9_evenings_0 rfl rfl ?_
  obtain ⟨h1, H⟩ := x_ckp H
  refine x_getf 1 93 9 0 (.int (x_i M v0 0)) dX9_evenings_1 lk_1030 (by decide) (by decide) rfl (fun _ => rfl) h1 ?_
  refine x_if_ne 4 14 dX9_evenings_4 (by decide) (fun c2 => ?_) (fun c2 => ?_)
  · replace H := x_ifn c2 H
    refine x_iload_n 14 1 dX9_evenings_14 rfl rfl ?_
    refine x_iconst 15 (1 : Int32) dX9_evenings_15 (by decide) ?_
    refine x_icmp_lt 16 24 dX9_evenings_16 (by decide) (fun c6 => ?_) (fun c6 => ?_)
    · replace H := x_ifp c6 H
      exact x_wk (le_s (le_n (le_s (le_s (le_s (le_s le_0)))))) (t_X9_evenings_24 l H)
    · replace H := x_ifn c6 H
      refine x_iload_n 19 1 dX9_evenings_19 rfl rfl ?_
      refine x_iconst 20 (5 : Int32) dX9_evenings_20 (by decide) ?_
      refine x_icmp_le 21 31 dX9_evenings_21 (by decide) (fun c11 => ?_) (fun c11 => ?_)
      · replace H := x_ifp c11 H
        refine x_aload_n 31 0 dX9_evenings_31 rfl rfl ?_
        refine x_getf 32 173 9 5 (.int (x_i M v0 5)) dX9_evenings_32 lk_1035 (by decide) (by decide) rfl (fun _ => rfl) h1 ?_
        refine x_istore_n 35 2 [some (.ref v0), some (.int v1), some (.int (x_i M v0 5)), none, none, none] dX9_evenings_35 rfl rfl (Nat.le_of_ble_eq_true rfl) rfl ?_
        refine x_iconst 36 (0 : Int32) dX9_evenings_36 (by decide) ?_
        refine x_istore_n 37 3 [some (.ref v0), some (.int v1), some (.int (x_i M v0 5)), some (.int (0 : Int32)), none, none] dX9_evenings_37 rfl rfl (Nat.le_of_ble_eq_true rfl) rfl ?_
        exact t_X9_evenings_38 l _ _ _ _ _ _ H
      · replace H := x_ifn c11 H
        exact x_wk (le_s (le_n (le_s (le_s (le_s (le_s le_0)))))) (t_X9_evenings_24 l H)
  · replace H := x_ifp c2 H
    refine x_aload_n 7 0 dX9_evenings_7 rfl rfl ?_
    refine x_bipush 8 (-5 : Int32) dX9_evenings_8 (by decide) ?_
    obtain ⟨r4, M3, e5, H⟩ := x_bd_of H
    refine x_callV 10 100 9 [(.int (-5 : Int32))] [] dX9_evenings_10 (ct_X9_no l e5) lk_1165 lk_1167 lk_37 (by decide) h1 lk_94 lk_1168 ⟨cn_X9_no, (by decide), by decide⟩ rfl (Nat.le_of_ble_eq_true rfl) (Nat.le_of_ble_eq_true rfl) (Nat.le_of_ble_eq_true rfl) (x_ri ?_)
    cases H
    exact x_iret 13 dX9_evenings_13 .int rfl rfl (Nat.le_of_ble_eq_true rfl) (Nat.le_of_ble_eq_true rfl) ⟨rfl, rfl⟩

theorem ct_X9_evenings (l : Launch) {v0 : Nat} {v1 : Int32} {M : XM} {q : Int32 × XM} (H : f_X9_evenings v0 v1 M = some q) : Ct l m_X9_evenings 3 0 0 [(.ref v0), (.int v1)] M (x_Ri q) := x_met l m_X9_evenings 3 0 0 [(.ref v0), (.int v1)] M (x_Ri q) _ rfl rfl (Nat.le_of_ble_eq_true rfl) (t_X9_evenings l H)
abbrev m_X9_seed : XU := (yX9_seed, cX9_seed, 3, (some .int))
theorem cn_X9_seed : m_X9_seed.1.cls ≠ "java/lang/invoke/MethodHandle" ∧ m_X9_seed.1.cls ≠ "java/lang/invoke/VarHandle" ∧ (parseMethodDescriptor m_X9_seed.1.desc).map (fun q => q.parameters.length) = some 1 := by decide +kernel
def f_X9_seed (v0 : Nat) (v1 : Int32) (M : XM) : Option (Int32 × XM) :=
  if x_tag M v0 = 9 + 10 then (x_lt (x_wi M v0 7 v1) (fun M2 => some ((x_i M v0 7), M2))) else none
set_option maxRecDepth 20000 in
set_option maxHeartbeats 4000000 in
theorem t_X9_seed (l : Launch) {v0 : Nat} {v1 : Int32} {M : XM} {q : Int32 × XM} (H : f_X9_seed v0 v1 M = some q) : AW l m_X9_seed 1 0 0 (x_Ri q) 0 0 0 [some (.ref v0), some (.int v1), none] [] M := by
  unfold f_X9_seed at H
  refine x_aload_n 0 0 dX9_seed_0 rfl rfl ?_
  obtain ⟨h1, H⟩ := x_ckp H
  refine x_getf 1 22 9 7 (.int (x_i M v0 7)) dX9_seed_1 lk_1037 (by decide) (by decide) rfl (fun _ => rfl) h1 ?_
  refine x_istore_n 4 2 [some (.ref v0), some (.int v1), some (.int (x_i M v0 7))] dX9_seed_4 rfl rfl (Nat.le_of_ble_eq_true rfl) rfl ?_
  refine x_aload_n 5 0 dX9_seed_5 rfl rfl ?_
  refine x_iload_n 6 1 dX9_seed_6 rfl rfl ?_
  obtain ⟨M2, w3, H⟩ := x_lt_of H
  have h4 : x_tag M2 v0 = 9 + 10 := by rw [w3]; exact h1
  refine x_putI' 7 22 9 7 dX9_seed_7 lk_1037 (by decide) (by decide) rfl (Or.inl rfl) (Or.inl rfl) h1 w3 ?_
  refine x_iload_n 10 2 dX9_seed_10 rfl rfl ?_
  cases H
  exact x_iret 11 dX9_seed_11 .int rfl rfl (Nat.le_of_ble_eq_true rfl) (Nat.le_of_ble_eq_true rfl) ⟨rfl, rfl⟩

theorem ct_X9_seed (l : Launch) {v0 : Nat} {v1 : Int32} {M : XM} {q : Int32 × XM} (H : f_X9_seed v0 v1 M = some q) : Ct l m_X9_seed 1 0 0 [(.ref v0), (.int v1)] M (x_Ri q) := x_met l m_X9_seed 1 0 0 [(.ref v0), (.int v1)] M (x_Ri q) _ rfl rfl (Nat.le_of_ble_eq_true rfl) (t_X9_seed l H)
theorem lk_1070 : Cond.fieldLink RX9 283 RX9 "ran" "I" ∈ x_TB := x_tb (k := 1070) (by decide +kernel) rfl
abbrev m_X9_body : XU := (yX9_body, cX9_body, 2, none)
theorem cn_X9_body : m_X9_body.1.cls ≠ "java/lang/invoke/MethodHandle" ∧ m_X9_body.1.cls ≠ "java/lang/invoke/VarHandle" ∧ (parseMethodDescriptor m_X9_body.1.desc).map (fun q => q.parameters.length) = some 1 := by decide +kernel
def f_X9_body_19 (v0 : Nat) (M : XM) : Option XM :=
  if x_tag M v0 = 9 + 10 then (x_lt (x_wi M v0 40 ((x_i M v0 40) + (1 : Int32))) (fun M4 => some M4)) else none
set_option maxRecDepth 20000 in
set_option maxHeartbeats 4000000 in
theorem t_X9_body_19 (l : Launch) {v0 : Nat} {M : XM} {q : XM} (H : f_X9_body_19 v0 M = some q) : AW l m_X9_body 1 0 0 (x_Rv q) 0 0 19 [some (.ref v0), none] [] M := by
  unfold f_X9_body_19 at H
  refine x_aload_n 19 0 dX9_body_19 rfl rfl ?_
  refine x_dup 20 dX9_body_20 rfl ?_
  obtain ⟨h3, H⟩ := x_ckp H
  refine x_getf 21 283 9 40 (.int (x_i M v0 40)) dX9_body_21 lk_1070 (by decide) (by decide) rfl (fun _ => rfl) h3 ?_
  refine x_iconst 24 (1 : Int32) dX9_body_24 (by decide) ?_
  refine x_iadd 25 dX9_body_25 ?_
  obtain ⟨M4, w5, H⟩ := x_lt_of H
  have h6 : x_tag M4 v0 = 9 + 10 := by rw [w5]; exact h3
  refine x_putI' 26 283 9 40 dX9_body_26 lk_1070 (by decide) (by decide) rfl (Or.inl rfl) (Or.inl rfl) h3 w5 ?_
  cases H
  exact x_vret 29 dX9_body_29 rfl (Nat.le_of_ble_eq_true rfl) (Nat.le_of_ble_eq_true rfl) ⟨rfl, rfl⟩

def f_X9_body (v0 : Nat) (v1 : Int32) (M : XM) : Option XM :=
  if x_tag M v0 = 9 + 10 then (if (20 : Int32) ≤ (x_i M v0 40) then (f_X9_body_19 v0 M) else (if x_at M (x_r M v0 39) 1 (x_i M v0 40) = true then (x_lt (x_wi M (x_r M v0 39) (x_i M v0 40).toNatClampNeg v1) (fun M8 => f_X9_body_19 v0 M8)) else none)) else none
set_option maxRecDepth 20000 in
set_option maxHeartbeats 4000000 in
theorem t_X9_body (l : Launch) {v0 : Nat} {v1 : Int32} {M : XM} {q : XM} (H : f_X9_body v0 v1 M = some q) : AW l m_X9_body 1 0 0 (x_Rv q) 0 0 0 [some (.ref v0), some (.int v1)] [] M := by
  unfold f_X9_body at H
  refine x_aload_n 0 0 dX9_body_0 rfl rfl ?_
  obtain ⟨h1, H⟩ := x_ckp H
  refine x_getf 1 283 9 40 (.int (x_i M v0 40)) dX9_body_1 lk_1070 (by decide) (by decide) rfl (fun _ => rfl) h1 ?_
  refine x_bipush 4 (20 : Int32) dX9_body_4 (by decide) ?_
  refine x_icmp_ge 6 19 dX9_body_6 (by decide) (fun c2 => ?_) (fun c2 => ?_)
  · replace H := x_ifp c2 H
    exact x_wk (le_s (le_n le_0)) (t_X9_body_19 l H)
  · replace H := x_ifn c2 H
    refine x_aload_n 9 0 dX9_body_9 rfl rfl ?_
    refine x_getf 10 90 9 39 (.ref (x_r M v0 39)) dX9_body_10 lk_1069 (by decide) (by decide) rfl (fun _ => rfl) h1 ?_
    refine x_aload_n 13 0 dX9_body_13 rfl rfl ?_
    refine x_getf 14 283 9 40 (.int (x_i M v0 40)) dX9_body_14 lk_1070 (by decide) (by decide) rfl (fun _ => rfl) h1 ?_
    refine x_iload_n 17 1 dX9_body_17 rfl rfl ?_
    obtain ⟨h7, H⟩ := x_ckp H
    obtain ⟨M8, w9, H⟩ := x_lt_of H
    have h10 : x_tag M8 v0 = 9 + 10 := by rw [w9]; exact h1
    have h11 : x_at M8 (x_r M v0 39) 1 (x_i M v0 40) = true := by rw [w9]; exact h7
    have h12 : x_tag M8 (x_r M v0 39) = 1 := by rw [w9]; exact (x_at_1 h7)
    refine x_iast' 18 dX9_body_18 h7 w9 ?_
    exact x_wk (le_s (le_n le_0)) (t_X9_body_19 l H)

theorem ct_X9_body (l : Launch) {v0 : Nat} {v1 : Int32} {M : XM} {q : XM} (H : f_X9_body v0 v1 M = some q) : Ct l m_X9_body 1 0 0 [(.ref v0), (.int v1)] M (x_Rv q) := x_met l m_X9_body 1 0 0 [(.ref v0), (.int v1)] M (x_Rv q) _ rfl rfl (Nat.le_of_ble_eq_true rfl) (t_X9_body l H)
theorem lk_1488 : Cond.code yX9_body cX9_body 2 none ∈ x_TB := x_tb (k := 1488) (by decide +kernel) rfl
theorem lk_1485 : Cond.methodLink RX9 286 yX9_body ∈ x_TB := x_tb (k := 1485) (by decide +kernel) rfl
theorem lk_81 : Cond.selects RX9 yX9_body yX9_body ∈ x_TB := x_tb (k := 81) (by decide +kernel) rfl
theorem lk_1487 : Cond.instanceMethod yX9_body ∈ x_TB := x_tb (k := 1487) (by decide +kernel) rfl
abbrev m_X9_counting : XU := (yX9_counting, cX9_counting, 5, (some .int))
theorem cn_X9_counting : m_X9_counting.1.cls ≠ "java/lang/invoke/MethodHandle" ∧ m_X9_counting.1.cls ≠ "java/lang/invoke/VarHandle" ∧ (parseMethodDescriptor m_X9_counting.1.desc).map (fun q => q.parameters.length) = some 2 := by decide +kernel
def f_X9_counting_101 (v3 : Int32) (v4 : Int32) (M : XM) : Option (Int32 × XM) :=
  if v3 = (6 : Int32) then (some ((v4 * (2 : Int32)), M)) else (some (v4, M))
set_option maxRecDepth 20000 in
set_option maxHeartbeats 4000000 in
theorem t_X9_counting_101 (l : Launch) {v3 : Int32} {v4 : Int32} {M : XM} {q : Int32 × XM} (H : f_X9_counting_101 v3 v4 M = some q) : AW l m_X9_counting 2 0 0 (x_Ri q) 0 0 101 [none, none, none, some (.int v3), some (.int v4)] [] M := by
  unfold f_X9_counting_101 at H
  refine x_iload_n 101 3 dX9_counting_101 rfl rfl ?_
  refine x_bipush 102 (6 : Int32) dX9_counting_102 (by decide) ?_
  refine x_icmp_ne 104 114 dX9_counting_104 (by decide) (fun c25 => ?_) (fun c25 => ?_)
  · replace H := x_ifn c25 H
    refine x_iload 114 4 dX9_counting_114 rfl ?_
    cases H
    exact x_iret 116 dX9_counting_116 .int rfl rfl (Nat.le_of_ble_eq_true rfl) (Nat.le_of_ble_eq_true rfl) ⟨rfl, rfl⟩
  · replace H := x_ifp c25 H
    refine x_iload 107 4 dX9_counting_107 rfl ?_
    refine x_iconst 109 (2 : Int32) dX9_counting_109 (by decide) ?_
    refine x_imul 110 dX9_counting_110 ?_
    refine x_goto 111 116 dX9_counting_111 (by decide) ?_
    cases H
    exact x_iret 116 dX9_counting_116 .int rfl rfl (Nat.le_of_ble_eq_true rfl) (Nat.le_of_ble_eq_true rfl) ⟨rfl, rfl⟩

def f_X9_counting_95 (v1 : Int32) (v3 : Int32) (v4 : Int32) (M : XM) : Option (Int32 × XM) :=
  f_X9_counting_101 v3 (v4 - v1) M
set_option maxRecDepth 20000 in
set_option maxHeartbeats 4000000 in
theorem t_X9_counting_95 (l : Launch) {v1 : Int32} {v3 : Int32} {v4 : Int32} {M : XM} {q : Int32 × XM} (H : f_X9_counting_95 v1 v3 v4 M = some q) : AW l m_X9_counting 2 0 0 (x_Ri q) 0 0 95 [none, some (.int v1), none, some (.int v3), some (.int v4)] [] M := by
  unfold f_X9_counting_95 at H
  refine x_iload 95 4 dX9_counting_95 rfl ?_
  refine x_iload_n 97 1 dX9_counting_97 rfl rfl ?_
  refine x_isub 98 dX9_counting_98 ?_
  refine x_istore 99 4 [none, some (.int v1), none, some (.int v3), some (.int (v4 - v1))] dX9_counting_99 rfl (Nat.le_of_ble_eq_true rfl) rfl ?_
  exact x_wk (le_s (le_n (le_s (le_s (le_s le_0))))) (t_X9_counting_101 l H)

def f_X9_counting_84 (v1 : Int32) (v3 : Int32) (v4 : Int32) (M : XM) : Option (Int32 × XM) :=
  if v3 = (4 : Int32) then (f_X9_counting_95 v1 v3 v4 M) else (if v3 = (6 : Int32) then (f_X9_counting_95 v1 v3 v4 M) else (f_X9_counting_101 v3 v4 M))
set_option maxRecDepth 20000 in
set_option maxHeartbeats 4000000 in
theorem t_X9_counting_84 (l : Launch) {v1 : Int32} {v3 : Int32} {v4 : Int32} {M : XM} {q : Int32 × XM} (H : f_X9_counting_84 v1 v3 v4 M = some q) : AW l m_X9_counting 2 0 0 (x_Ri q) 0 0 84 [none, some (.int v1), none, some (.int v3), some (.int v4)] [] M := by
  unfold f_X9_counting_84 at H
  refine x_iload_n 84 3 dX9_counting_84 rfl rfl ?_
  refine x_iconst 85 (4 : Int32) dX9_counting_85 (by decide) ?_
  refine x_icmp_eq 86 95 dX9_counting_86 (by decide) (fun c24 => ?_) (fun c24 => ?_)
  · replace H := x_ifp c24 H
    exact t_X9_counting_95 l H
  · replace H := x_ifn c24 H
    refine x_iload_n 89 3 dX9_counting_89 rfl rfl ?_
    refine x_bipush 90 (6 : Int32) dX9_counting_90 (by decide) ?_
    refine x_icmp_ne 92 101 dX9_counting_92 (by decide) (fun c26 => ?_) (fun c26 => ?_)
    · replace H := x_ifn c26 H
      exact x_wk (le_s (le_n (le_s (le_s (le_s le_0))))) (t_X9_counting_101 l H)
    · replace H := x_ifp c26 H
      exact t_X9_counting_95 l H

def f_X9_counting_73 (v0 : Nat) (v1 : Int32) (v3 : Int32) (v4 : Int32) (M : XM) : Option (Int32 × XM) :=
  if x_tag M v0 = 9 + 10 then (if x_at M (x_r M v0 11) 1 v1 = true then (f_X9_counting_84 v1 v3 (v4 + (x_i M (x_r M v0 11) v1.toNatClampNeg)) M) else none) else none
set_option maxRecDepth 20000 in
set_option maxHeartbeats 4000000 in
theorem t_X9_counting_73 (l : Launch) {v0 : Nat} {v1 : Int32} {v3 : Int32} {v4 : Int32} {M : XM} {q : Int32 × XM} (H : f_X9_counting_73 v0 v1 v3 v4 M = some q) : AW l m_X9_counting 2 0 0 (x_Ri q) 0 0 73 [some (.ref v0), some (.int v1), none, some (.int v3), some (.int v4)] [] M := by
  unfold f_X9_counting_73 at H
  refine x_iload 73 4 dX9_counting_73 rfl ?_
  refine x_aload_n 75 0 dX9_counting_75 rfl rfl ?_
  obtain ⟨h22, H⟩ := x_ckp H
  refine x_getf 76 35 9 11 (.ref (x_r M v0 11)) dX9_counting_76 lk_1041 (by decide) (by decide) rfl (fun _ => rfl) h22 ?_
  refine x_iload_n 79 1 dX9_counting_79 rfl rfl ?_
  obtain ⟨h23, H⟩ := x_ckp H
  refine x_iald 80 dX9_counting_80 h23 ?_
  refine x_iadd 81 dX9_counting_81 ?_
  refine x_istore 82 4 [some (.ref v0), some (.int v1), none, some (.int v3), some (.int (v4 + (x_i M (x_r M v0 11) v1.toNatClampNeg)))] dX9_counting_82 rfl (Nat.le_of_ble_eq_true rfl) rfl ?_
  exact x_wk (le_n (le_s (le_s (le_s (le_s le_0))))) (t_X9_counting_84 l H)

def f_X9_counting_c55 (v0 : Nat) (v1 : Int32) (v2 : Int32) (v3 : Int32) (M : XM) : Option (Int32 × XM) :=
  if v3 = (1 : Int32) then (f_X9_counting_73 v0 v1 v3 (v2 + v1) M) else (if v3 = (5 : Int32) then (f_X9_counting_73 v0 v1 v3 (v2 + v1) M) else (f_X9_counting_84 v1 v3 (v2 + v1) M))
set_option maxRecDepth 20000 in
set_option maxHeartbeats 4000000 in
theorem t_X9_counting_c55 (l : Launch) {v0 : Nat} {v1 : Int32} {v2 : Int32} {v3 : Int32} {M : XM} {q : Int32 × XM} (H : f_X9_counting_c55 v0 v1 v2 v3 M = some q) : AW l m_X9_counting 2 0 0 (x_Ri q) 0 0 58 [some (.ref v0), some (.int v1), some (.int v2), some (.int v3), none] [] M := by
  unfold f_X9_counting_c55 at H
  refine x_iload_n 58 2 dX9_counting_58 rfl rfl ?_
  refine x_iload_n 59 1 dX9_counting_59 rfl rfl ?_
  refine x_iadd 60 dX9_counting_60 ?_
  refine x_istore 61 4 [some (.ref v0), some (.int v1), some (.int v2), some (.int v3), some (.int (v2 + v1))] dX9_counting_61 rfl (Nat.le_of_ble_eq_true rfl) rfl ?_
  refine x_iload_n 63 3 dX9_counting_63 rfl rfl ?_
  refine x_iconst 64 (1 : Int32) dX9_counting_64 (by decide) ?_
  refine x_icmp_eq 65 73 dX9_counting_65 (by decide) (fun c21 => ?_) (fun c21 => ?_)
  · replace H := x_ifp c21 H
    exact x_wk (le_s (le_s (le_n (le_s (le_s le_0))))) (t_X9_counting_73 l H)
  · replace H := x_ifn c21 H
    refine x_iload_n 68 3 dX9_counting_68 rfl rfl ?_
    refine x_iconst 69 (5 : Int32) dX9_counting_69 (by decide) ?_
    refine x_icmp_ne 70 84 dX9_counting_70 (by decide) (fun c27 => ?_) (fun c27 => ?_)
    · replace H := x_ifn c27 H
      exact x_wk (le_n (le_s (le_n (le_s (le_s le_0))))) (t_X9_counting_84 l H)
    · replace H := x_ifp c27 H
      exact x_wk (le_s (le_s (le_n (le_s (le_s le_0))))) (t_X9_counting_73 l H)

def f_X9_counting_52 (v0 : Nat) (v1 : Int32) (v2 : Int32) (v3 : Int32) (M : XM) : Option (Int32 × XM) :=
  if x_tag M v0 = 9 + 10 then (x_bv (f_X9_body v0 (10 : Int32) M) (f_X9_counting_c55 v0 v1 v2 v3)) else none
set_option maxRecDepth 20000 in
set_option maxHeartbeats 4000000 in
theorem t_X9_counting_52 (l : Launch) {v0 : Nat} {v1 : Int32} {v2 : Int32} {v3 : Int32} {M : XM} {q : Int32 × XM} (H : f_X9_counting_52 v0 v1 v2 v3 M = some q) : AW l m_X9_counting 2 0 0 (x_Ri q) 0 0 52 [some (.ref v0), some (.int v1), some (.int v2), some (.int v3), none] [] M := by
  unfold f_X9_counting_52 at H
  refine x_aload_n 52 0 dX9_counting_52 rfl rfl ?_
  refine x_bipush 53 (10 : Int32) dX9_counting_53 (by decide) ?_
  obtain ⟨h17, H⟩ := x_ckp H
  obtain ⟨M18, e20, H⟩ := x_bv_of H
  refine x_callV 55 286 9 [(.int (10 : Int32))] [] dX9_counting_55 (ct_X9_body l e20) lk_1485 lk_1487 lk_81 (by decide) h17 lk_94 lk_1488 ⟨cn_X9_body, (by decide), by decide⟩ rfl (Nat.le_of_ble_eq_true rfl) (Nat.le_of_ble_eq_true rfl) (Nat.le_of_ble_eq_true rfl) (x_rv ?_)
  exact t_X9_counting_c55 l H

def f_X9_counting_c49 (v0 : Nat) (v1 : Int32) (v2 : Int32) (v3 : Int32) (M : XM) : Option (Int32 × XM) :=
  f_X9_counting_52 v0 v1 v2 v3 M
set_option maxRecDepth 20000 in
set_option maxHeartbeats 4000000 in
theorem t_X9_counting_c49 (l : Launch) {v0 : Nat} {v1 : Int32} {v2 : Int32} {v3 : Int32} {M : XM} {q : Int32 × XM} (H : f_X9_counting_c49 v0 v1 v2 v3 M = some q) : AW l m_X9_counting 2 0 0 (x_Ri q) 0 0 52 [some (.ref v0), some (.int v1), some (.int v2), some (.int v3), none] [] M := by
  unfold f_X9_counting_c49 at H
  exact t_X9_counting_52 l H

def f_X9_counting_46 (v0 : Nat) (v1 : Int32) (v2 : Int32) (v3 : Int32) (M : XM) : Option (Int32 × XM) :=
  if x_tag M v0 = 9 + 10 then (x_bv (f_X9_body v0 (20 : Int32) M) (f_X9_counting_c49 v0 v1 v2 v3)) else none
set_option maxRecDepth 20000 in
set_option maxHeartbeats 4000000 in
theorem t_X9_counting_46 (l : Launch) {v0 : Nat} {v1 : Int32} {v2 : Int32} {v3 : Int32} {M : XM} {q : Int32 × XM} (H : f_X9_counting_46 v0 v1 v2 v3 M = some q) : AW l m_X9_counting 2 0 0 (x_Ri q) 0 0 46 [some (.ref v0), some (.int v1), some (.int v2), some (.int v3), none] [] M := by
  unfold f_X9_counting_46 at H
  refine x_aload_n 46 0 dX9_counting_46 rfl rfl ?_
  refine x_bipush 47 (20 : Int32) dX9_counting_47 (by decide) ?_
  obtain ⟨h13, H⟩ := x_ckp H
  obtain ⟨M14, e16, H⟩ := x_bv_of H
  refine x_callV 49 286 9 [(.int (20 : Int32))] [] dX9_counting_49 (ct_X9_body l e16) lk_1485 lk_1487 lk_81 (by decide) h13 lk_94 lk_1488 ⟨cn_X9_body, (by decide), by decide⟩ rfl (Nat.le_of_ble_eq_true rfl) (Nat.le_of_ble_eq_true rfl) (Nat.le_of_ble_eq_true rfl) (x_rv ?_)
  exact t_X9_counting_c49 l H

def f_X9_counting_36 (v0 : Nat) (v1 : Int32) (v2 : Int32) (v3 : Int32) (M : XM) : Option (Int32 × XM) :=
  if v3 = (1 : Int32) then (f_X9_counting_46 v0 v1 v2 v3 M) else (if v3 = (5 : Int32) then (f_X9_counting_46 v0 v1 v2 v3 M) else (f_X9_counting_52 v0 v1 v2 v3 M))
set_option maxRecDepth 20000 in
set_option maxHeartbeats 4000000 in
theorem t_X9_counting_36 (l : Launch) {v0 : Nat} {v1 : Int32} {v2 : Int32} {v3 : Int32} {M : XM} {q : Int32 × XM} (H : f_X9_counting_36 v0 v1 v2 v3 M = some q) : AW l m_X9_counting 2 0 0 (x_Ri q) 0 0 36 [some (.ref v0), some (.int v1), some (.int v2), some (.int v3), none] [] M := by
  unfold f_X9_counting_36 at H
  refine x_iload_n 36 3 dX9_counting_36 rfl rfl ?_
  refine x_iconst 37 (1 : Int32) dX9_counting_37 (by decide) ?_
  refine x_icmp_eq 38 46 dX9_counting_38 (by decide) (fun c12 => ?_) (fun c12 => ?_)
  · replace H := x_ifp c12 H
    exact t_X9_counting_46 l H
  · replace H := x_ifn c12 H
    refine x_iload_n 41 3 dX9_counting_41 rfl rfl ?_
    refine x_iconst 42 (5 : Int32) dX9_counting_42 (by decide) ?_
    refine x_icmp_ne 43 52 dX9_counting_43 (by decide) (fun c28 => ?_) (fun c28 => ?_)
    · replace H := x_ifn c28 H
      exact t_X9_counting_52 l H
    · replace H := x_ifp c28 H
      exact t_X9_counting_46 l H

def f_X9_counting_c33 (v0 : Nat) (v1 : Int32) (v2 : Int32) (v3 : Int32) (M : XM) : Option (Int32 × XM) :=
  f_X9_counting_36 v0 v1 v2 v3 M
set_option maxRecDepth 20000 in
set_option maxHeartbeats 4000000 in
theorem t_X9_counting_c33 (l : Launch) {v0 : Nat} {v1 : Int32} {v2 : Int32} {v3 : Int32} {M : XM} {q : Int32 × XM} (H : f_X9_counting_c33 v0 v1 v2 v3 M = some q) : AW l m_X9_counting 2 0 0 (x_Ri q) 0 0 36 [some (.ref v0), some (.int v1), some (.int v2), some (.int v3), none] [] M := by
  unfold f_X9_counting_c33 at H
  exact t_X9_counting_36 l H

def f_X9_counting_30 (v0 : Nat) (v1 : Int32) (v2 : Int32) (v3 : Int32) (M : XM) : Option (Int32 × XM) :=
  if x_tag M v0 = 9 + 10 then (x_bv (f_X9_body v0 (51 : Int32) M) (f_X9_counting_c33 v0 v1 v2 v3)) else none
set_option maxRecDepth 20000 in
set_option maxHeartbeats 4000000 in
theorem t_X9_counting_30 (l : Launch) {v0 : Nat} {v1 : Int32} {v2 : Int32} {v3 : Int32} {M : XM} {q : Int32 × XM} (H : f_X9_counting_30 v0 v1 v2 v3 M = some q) : AW l m_X9_counting 2 0 0 (x_Ri q) 0 0 30 [some (.ref v0), some (.int v1), some (.int v2), some (.int v3), none] [] M := by
  unfold f_X9_counting_30 at H
  refine x_aload_n 30 0 dX9_counting_30 rfl rfl ?_
  refine x_bipush 31 (51 : Int32) dX9_counting_31 (by decide) ?_
  obtain ⟨h8, H⟩ := x_ckp H
  obtain ⟨M9, e11, H⟩ := x_bv_of H
  refine x_callV 33 286 9 [(.int (51 : Int32))] [] dX9_counting_33 (ct_X9_body l e11) lk_1485 lk_1487 lk_81 (by decide) h8 lk_94 lk_1488 ⟨cn_X9_body, (by decide), by decide⟩ rfl (Nat.le_of_ble_eq_true rfl) (Nat.le_of_ble_eq_true rfl) (Nat.le_of_ble_eq_true rfl) (x_rv ?_)
  exact t_X9_counting_c33 l H

def f_X9_counting_19 (v0 : Nat) (v1 : Int32) (v2 : Int32) (v3 : Int32) (M : XM) : Option (Int32 × XM) :=
  if v3 = (4 : Int32) then (f_X9_counting_30 v0 v1 v2 v3 M) else (if v3 = (6 : Int32) then (f_X9_counting_30 v0 v1 v2 v3 M) else (f_X9_counting_36 v0 v1 v2 v3 M))
set_option maxRecDepth 20000 in
set_option maxHeartbeats 4000000 in
theorem t_X9_counting_19 (l : Launch) {v0 : Nat} {v1 : Int32} {v2 : Int32} {v3 : Int32} {M : XM} {q : Int32 × XM} (H : f_X9_counting_19 v0 v1 v2 v3 M = some q) : AW l m_X9_counting 2 0 0 (x_Ri q) 0 0 19 [some (.ref v0), some (.int v1), some (.int v2), some (.int v3), none] [] M := by
  unfold f_X9_counting_19 at H
  refine x_iload_n 19 3 dX9_counting_19 rfl rfl ?_
  refine x_iconst 20 (4 : Int32) dX9_counting_20 (by decide) ?_
  refine x_icmp_eq 21 30 dX9_counting_21 (by decide) (fun c7 => ?_) (fun c7 => ?_)
  · replace H := x_ifp c7 H
    exact t_X9_counting_30 l H
  · replace H := x_ifn c7 H
    refine x_iload_n 24 3 dX9_counting_24 rfl rfl ?_
    refine x_bipush 25 (6 : Int32) dX9_counting_25 (by decide) ?_
    refine x_icmp_ne 27 36 dX9_counting_27 (by decide) (fun c29 => ?_) (fun c29 => ?_)
    · replace H := x_ifn c29 H
      exact t_X9_counting_36 l H
    · replace H := x_ifp c29 H
      exact t_X9_counting_30 l H

def f_X9_counting_c16 (v0 : Nat) (v1 : Int32) (v2 : Int32) (v3 : Int32) (M : XM) : Option (Int32 × XM) :=
  f_X9_counting_19 v0 v1 v2 v3 M
set_option maxRecDepth 20000 in
set_option maxHeartbeats 4000000 in
theorem t_X9_counting_c16 (l : Launch) {v0 : Nat} {v1 : Int32} {v2 : Int32} {v3 : Int32} {M : XM} {q : Int32 × XM} (H : f_X9_counting_c16 v0 v1 v2 v3 M = some q) : AW l m_X9_counting 2 0 0 (x_Ri q) 0 0 19 [some (.ref v0), some (.int v1), some (.int v2), some (.int v3), none] [] M := by
  unfold f_X9_counting_c16 at H
  exact t_X9_counting_19 l H

def f_X9_counting (v0 : Nat) (v1 : Int32) (v2 : Int32) (M : XM) : Option (Int32 × XM) :=
  if x_tag M v0 = 9 + 10 then (if x_at M (x_r M v0 10) 1 v1 = true then (if (x_i M (x_r M v0 10) v1.toNatClampNeg) = (6 : Int32) then (x_bv (f_X9_body v0 (70 : Int32) M) (f_X9_counting_c16 v0 v1 v2 (x_i M (x_r M v0 10) v1.toNatClampNeg))) else (f_X9_counting_19 v0 v1 v2 (x_i M (x_r M v0 10) v1.toNatClampNeg) M)) else none) else none
set_option maxRecDepth 20000 in
set_option maxHeartbeats 4000000 in
theorem t_X9_counting (l : Launch) {v0 : Nat} {v1 : Int32} {v2 : Int32} {M : XM} {q : Int32 × XM} (H : f_X9_counting v0 v1 v2 M = some q) : AW l m_X9_counting 2 0 0 (x_Ri q) 0 0 0 [some (.ref v0), some (.int v1), some (.int v2), none, none] [] M := by
  unfold f_X9_counting at H
  refine x_aload_n 0 0 dX9_counting_0 rfl rfl ?_
  obtain ⟨h1, H⟩ := x_ckp H
  refine x_getf 1 32 9 10 (.ref (x_r M v0 10)) dX9_counting_1 lk_1040 (by decide) (by decide) rfl (fun _ => rfl) h1 ?_
  refine x_iload_n 4 1 dX9_counting_4 rfl rfl ?_
  obtain ⟨h2, H⟩ := x_ckp H
  refine x_iald 5 dX9_counting_5 h2 ?_
  refine x_istore_n 6 3 [some (.ref v0), some (.int v1), some (.int v2), some (.int (x_i M (x_r M v0 10) v1.toNatClampNeg)), none] dX9_counting_6 rfl rfl (Nat.le_of_ble_eq_true rfl) rfl ?_
  refine x_iload_n 7 3 dX9_counting_7 rfl rfl ?_
  refine x_bipush 8 (6 : Int32) dX9_counting_8 (by decide) ?_
  refine x_icmp_ne 10 19 dX9_counting_10 (by decide) (fun c3 => ?_) (fun c3 => ?_)
  · replace H := x_ifn c3 H
    exact t_X9_counting_19 l H
  · replace H := x_ifp c3 H
    refine x_aload_n 13 0 dX9_counting_13 rfl rfl ?_
    refine x_bipush 14 (70 : Int32) dX9_counting_14 (by decide) ?_
    obtain ⟨M4, e6, H⟩ := x_bv_of H
    refine x_callV 16 286 9 [(.int (70 : Int32))] [] dX9_counting_16 (ct_X9_body l e6) lk_1485 lk_1487 lk_81 (by decide) h1 lk_94 lk_1488 ⟨cn_X9_body, (by decide), by decide⟩ rfl (Nat.le_of_ble_eq_true rfl) (Nat.le_of_ble_eq_true rfl) (Nat.le_of_ble_eq_true rfl) (x_rv ?_)
    exact t_X9_counting_c16 l H

theorem ct_X9_counting (l : Launch) {v0 : Nat} {v1 : Int32} {v2 : Int32} {M : XM} {q : Int32 × XM} (H : f_X9_counting v0 v1 v2 M = some q) : Ct l m_X9_counting 2 0 0 [(.ref v0), (.int v1), (.int v2)] M (x_Ri q) := x_met l m_X9_counting 2 0 0 [(.ref v0), (.int v1), (.int v2)] M (x_Ri q) _ rfl rfl (Nat.le_of_ble_eq_true rfl) (t_X9_counting l H)
theorem lk_1484 : Cond.code yX9_counting cX9_counting 5 (some .int) ∈ x_TB := x_tb (k := 1484) (by decide +kernel) rfl
theorem lk_1481 : Cond.methodLink RX9 289 yX9_counting ∈ x_TB := x_tb (k := 1481) (by decide +kernel) rfl
theorem lk_80 : Cond.selects RX9 yX9_counting yX9_counting ∈ x_TB := x_tb (k := 80) (by decide +kernel) rfl
theorem lk_1483 : Cond.instanceMethod yX9_counting ∈ x_TB := x_tb (k := 1483) (by decide +kernel) rfl
abbrev m_X9_asking : XU := (yX9_asking, cX9_asking, 7, (some .int))
theorem cn_X9_asking : m_X9_asking.1.cls ≠ "java/lang/invoke/MethodHandle" ∧ m_X9_asking.1.cls ≠ "java/lang/invoke/VarHandle" ∧ (parseMethodDescriptor m_X9_asking.1.desc).map (fun q => q.parameters.length) = some 2 := by decide +kernel
def f_X9_asking_c86 (v5 : Int32) (s0 : Int32) (M : XM) : Option (Int32 × XM) :=
  if v5 = 0 then (some ((s0 * (2 : Int32)), M)) else (some (((s0 * (2 : Int32)) * (3 : Int32)), M))
set_option maxRecDepth 20000 in
set_option maxHeartbeats 4000000 in
theorem t_X9_asking_c86 (l : Launch) {v5 : Int32} {s0 : Int32} {M : XM} {q : Int32 × XM} (H : f_X9_asking_c86 v5 s0 M = some q) : AW l m_X9_asking 3 0 0 (x_Ri q) 0 0 89 [none, none, none, none, none, some (.int v5), none] [(.int s0)] M := by
  unfold f_X9_asking_c86 at H
  refine x_iconst 89 (2 : Int32) dX9_asking_89 (by decide) ?_
  refine x_imul 90 dX9_asking_90 ?_
  refine x_istore 91 6 [none, none, none, none, none, some (.int v5), some (.int (s0 * (2 : Int32)))] dX9_asking_91 rfl (Nat.le_of_ble_eq_true rfl) rfl ?_
  refine x_iload 93 5 dX9_asking_93 rfl ?_
  refine x_if_eq 95 105 dX9_asking_95 (by decide) (fun c24 => ?_) (fun c24 => ?_)
  · replace H := x_ifp c24 H
    refine x_iload 105 6 dX9_asking_105 rfl ?_
    cases H
    exact x_iret 107 dX9_asking_107 .int rfl rfl (Nat.le_of_ble_eq_true rfl) (Nat.le_of_ble_eq_true rfl) ⟨rfl, rfl⟩
  · replace H := x_ifn c24 H
    refine x_iload 98 6 dX9_asking_98 rfl ?_
    refine x_iconst 100 (3 : Int32) dX9_asking_100 (by decide) ?_
    refine x_imul 101 dX9_asking_101 ?_
    refine x_goto 102 107 dX9_asking_102 (by decide) ?_
    cases H
    exact x_iret 107 dX9_asking_107 .int rfl rfl (Nat.le_of_ble_eq_true rfl) (Nat.le_of_ble_eq_true rfl) ⟨rfl, rfl⟩

def f_X9_asking_c79 (v0 : Nat) (v1 : Int32) (v4 : Int32) (v5 : Int32) (M : XM) : Option (Int32 × XM) :=
  if x_tag M v0 = 9 + 10 then (x_bd (f_X9_counting v0 v1 v4 M) (f_X9_asking_c86 v5)) else none
set_option maxRecDepth 20000 in
set_option maxHeartbeats 4000000 in
theorem t_X9_asking_c79 (l : Launch) {v0 : Nat} {v1 : Int32} {v4 : Int32} {v5 : Int32} {M : XM} {q : Int32 × XM} (H : f_X9_asking_c79 v0 v1 v4 v5 M = some q) : AW l m_X9_asking 3 0 0 (x_Ri q) 0 0 82 [some (.ref v0), some (.int v1), none, none, some (.int v4), some (.int v5), none] [] M := by
  unfold f_X9_asking_c79 at H
  refine x_aload_n 82 0 dX9_asking_82 rfl rfl ?_
  refine x_iload_n 83 1 dX9_asking_83 rfl rfl ?_
  refine x_iload 84 4 dX9_asking_84 rfl ?_
  obtain ⟨h20, H⟩ := x_ckp H
  obtain ⟨r22, M21, e23, H⟩ := x_bd_of H
  refine x_callV 86 289 9 [(.int v1), (.int v4)] [] dX9_asking_86 (ct_X9_counting l e23) lk_1481 lk_1483 lk_80 (by decide) h20 lk_94 lk_1484 ⟨cn_X9_counting, (by decide), by decide⟩ rfl (Nat.le_of_ble_eq_true rfl) (Nat.le_of_ble_eq_true rfl) (Nat.le_of_ble_eq_true rfl) (x_ri ?_)
  exact x_wk (le_n (le_n (le_s (le_s (le_n (le_s (le_s le_0))))))) (t_X9_asking_c86 l H)

def f_X9_asking_76 (v0 : Nat) (v1 : Int32) (v4 : Int32) (v5 : Int32) (M : XM) : Option (Int32 × XM) :=
  if x_tag M v0 = 9 + 10 then (x_bv (f_X9_body v0 (11 : Int32) M) (f_X9_asking_c79 v0 v1 v4 v5)) else none
set_option maxRecDepth 20000 in
set_option maxHeartbeats 4000000 in
theorem t_X9_asking_76 (l : Launch) {v0 : Nat} {v1 : Int32} {v4 : Int32} {v5 : Int32} {M : XM} {q : Int32 × XM} (H : f_X9_asking_76 v0 v1 v4 v5 M = some q) : AW l m_X9_asking 3 0 0 (x_Ri q) 0 0 76 [some (.ref v0), some (.int v1), none, none, some (.int v4), some (.int v5), none] [] M := by
  unfold f_X9_asking_76 at H
  refine x_aload_n 76 0 dX9_asking_76 rfl rfl ?_
  refine x_bipush 77 (11 : Int32) dX9_asking_77 (by decide) ?_
  obtain ⟨h16, H⟩ := x_ckp H
  obtain ⟨M17, e19, H⟩ := x_bv_of H
  refine x_callV 79 286 9 [(.int (11 : Int32))] [] dX9_asking_79 (ct_X9_body l e19) lk_1485 lk_1487 lk_81 (by decide) h16 lk_94 lk_1488 ⟨cn_X9_body, (by decide), by decide⟩ rfl (Nat.le_of_ble_eq_true rfl) (Nat.le_of_ble_eq_true rfl) (Nat.le_of_ble_eq_true rfl) (x_rv ?_)
  exact t_X9_asking_c79 l H

def f_X9_asking_c73 (v0 : Nat) (v1 : Int32) (v4 : Int32) (v5 : Int32) (M : XM) : Option (Int32 × XM) :=
  f_X9_asking_76 v0 v1 v4 v5 M
set_option maxRecDepth 20000 in
set_option maxHeartbeats 4000000 in
theorem t_X9_asking_c73 (l : Launch) {v0 : Nat} {v1 : Int32} {v4 : Int32} {v5 : Int32} {M : XM} {q : Int32 × XM} (H : f_X9_asking_c73 v0 v1 v4 v5 M = some q) : AW l m_X9_asking 3 0 0 (x_Ri q) 0 0 76 [some (.ref v0), some (.int v1), none, none, some (.int v4), some (.int v5), none] [] M := by
  unfold f_X9_asking_c73 at H
  exact t_X9_asking_76 l H

def f_X9_asking_63 (v0 : Nat) (v1 : Int32) (v4 : Int32) (s0 : Int32) (M : XM) : Option (Int32 × XM) :=
  if s0 = 0 then (f_X9_asking_76 v0 v1 v4 s0 M) else (if x_tag M v0 = 9 + 10 then (x_bv (f_X9_body v0 (30 : Int32) M) (f_X9_asking_c73 v0 v1 v4 s0)) else none)
set_option maxRecDepth 20000 in
set_option maxHeartbeats 4000000 in
theorem t_X9_asking_63 (l : Launch) {v0 : Nat} {v1 : Int32} {v4 : Int32} {s0 : Int32} {M : XM} {q : Int32 × XM} (H : f_X9_asking_63 v0 v1 v4 s0 M = some q) : AW l m_X9_asking 3 0 0 (x_Ri q) 0 0 63 [some (.ref v0), some (.int v1), none, none, some (.int v4), none, none] [(.int s0)] M := by
  unfold f_X9_asking_63 at H
  refine x_istore 63 5 [some (.ref v0), some (.int v1), none, none, some (.int v4), some (.int s0), none] dX9_asking_63 rfl (Nat.le_of_ble_eq_true rfl) rfl ?_
  refine x_iload 65 5 dX9_asking_65 rfl ?_
  refine x_if_eq 67 76 dX9_asking_67 (by decide) (fun c15 => ?_) (fun c15 => ?_)
  · replace H := x_ifp c15 H
    exact t_X9_asking_76 l H
  · replace H := x_ifn c15 H
    refine x_aload_n 70 0 dX9_asking_70 rfl rfl ?_
    refine x_bipush 71 (30 : Int32) dX9_asking_71 (by decide) ?_
    obtain ⟨h25, H⟩ := x_ckp H
    obtain ⟨M26, e28, H⟩ := x_bv_of H
    refine x_callV 73 286 9 [(.int (30 : Int32))] [] dX9_asking_73 (ct_X9_body l e28) lk_1485 lk_1487 lk_81 (by decide) h25 lk_94 lk_1488 ⟨cn_X9_body, (by decide), by decide⟩ rfl (Nat.le_of_ble_eq_true rfl) (Nat.le_of_ble_eq_true rfl) (Nat.le_of_ble_eq_true rfl) (x_rv ?_)
    exact t_X9_asking_c73 l H

def f_X9_asking_58 (v0 : Nat) (v1 : Int32) (v4 : Int32) (M : XM) : Option (Int32 × XM) :=
  f_X9_asking_63 v0 v1 v4 (1 : Int32) M
set_option maxRecDepth 20000 in
set_option maxHeartbeats 4000000 in
theorem t_X9_asking_58 (l : Launch) {v0 : Nat} {v1 : Int32} {v4 : Int32} {M : XM} {q : Int32 × XM} (H : f_X9_asking_58 v0 v1 v4 M = some q) : AW l m_X9_asking 3 0 0 (x_Ri q) 0 0 58 [some (.ref v0), some (.int v1), none, none, some (.int v4), none, none] [] M := by
  unfold f_X9_asking_58 at H
  refine x_iconst 58 (1 : Int32) dX9_asking_58 (by decide) ?_
  refine x_goto 59 63 dX9_asking_59 (by decide) ?_
  exact t_X9_asking_63 l H

def f_X9_asking_48 (v0 : Nat) (v1 : Int32) (v3 : Int32) (v4 : Int32) (M : XM) : Option (Int32 × XM) :=
  if v3 = (2 : Int32) then (f_X9_asking_58 v0 v1 v4 M) else (if v3 = (3 : Int32) then (f_X9_asking_58 v0 v1 v4 M) else (f_X9_asking_63 v0 v1 v4 (0 : Int32) M))
set_option maxRecDepth 20000 in
set_option maxHeartbeats 4000000 in
theorem t_X9_asking_48 (l : Launch) {v0 : Nat} {v1 : Int32} {v3 : Int32} {v4 : Int32} {M : XM} {q : Int32 × XM} (H : f_X9_asking_48 v0 v1 v3 v4 M = some q) : AW l m_X9_asking 3 0 0 (x_Ri q) 0 0 48 [some (.ref v0), some (.int v1), none, some (.int v3), some (.int v4), none, none] [] M := by
  unfold f_X9_asking_48 at H
  refine x_iload_n 48 3 dX9_asking_48 rfl rfl ?_
  refine x_iconst 49 (2 : Int32) dX9_asking_49 (by decide) ?_
  refine x_icmp_eq 50 58 dX9_asking_50 (by decide) (fun c14 => ?_) (fun c14 => ?_)
  · replace H := x_ifp c14 H
    exact x_wk (le_s (le_s (le_s (le_n (le_s (le_s (le_s le_0))))))) (t_X9_asking_58 l H)
  · replace H := x_ifn c14 H
    refine x_iload_n 53 3 dX9_asking_53 rfl rfl ?_
    refine x_iconst 54 (3 : Int32) dX9_asking_54 (by decide) ?_
    refine x_icmp_ne 55 62 dX9_asking_55 (by decide) (fun c29 => ?_) (fun c29 => ?_)
    · replace H := x_ifn c29 H
      refine x_iconst 62 (0 : Int32) dX9_asking_62 (by decide) ?_
      exact x_wk (le_s (le_s (le_s (le_n (le_s (le_s (le_s le_0))))))) (t_X9_asking_63 l H)
    · replace H := x_ifp c29 H
      exact x_wk (le_s (le_s (le_s (le_n (le_s (le_s (le_s le_0))))))) (t_X9_asking_58 l H)

def f_X9_asking_c40 (v0 : Nat) (v1 : Int32) (v2 : Int32) (v3 : Int32) (M : XM) : Option (Int32 × XM) :=
  f_X9_asking_48 v0 v1 v3 (v2 + (1 : Int32)) M
set_option maxRecDepth 20000 in
set_option maxHeartbeats 4000000 in
theorem t_X9_asking_c40 (l : Launch) {v0 : Nat} {v1 : Int32} {v2 : Int32} {v3 : Int32} {M : XM} {q : Int32 × XM} (H : f_X9_asking_c40 v0 v1 v2 v3 M = some q) : AW l m_X9_asking 3 0 0 (x_Ri q) 0 0 43 [some (.ref v0), some (.int v1), some (.int v2), some (.int v3), none, none, none] [] M := by
  unfold f_X9_asking_c40 at H
  refine x_iload_n 43 2 dX9_asking_43 rfl rfl ?_
  refine x_iconst 44 (1 : Int32) dX9_asking_44 (by decide) ?_
  refine x_iadd 45 dX9_asking_45 ?_
  refine x_istore 46 4 [some (.ref v0), some (.int v1), some (.int v2), some (.int v3), some (.int (v2 + (1 : Int32))), none, none] dX9_asking_46 rfl (Nat.le_of_ble_eq_true rfl) rfl ?_
  exact x_wk (le_s (le_s (le_n (le_s (le_s (le_s (le_s le_0))))))) (t_X9_asking_48 l H)

def f_X9_asking_32 (v0 : Nat) (v1 : Int32) (v2 : Int32) (v3 : Int32) (v4 : Int32) (M : XM) : Option (Int32 × XM) :=
  if v3 = (3 : Int32) then (if x_tag M v0 = 9 + 10 then (x_bv (f_X9_body v0 (40 : Int32) M) (f_X9_asking_c40 v0 v1 v2 v3)) else none) else (f_X9_asking_48 v0 v1 v3 v4 M)
set_option maxRecDepth 20000 in
set_option maxHeartbeats 4000000 in
theorem t_X9_asking_32 (l : Launch) {v0 : Nat} {v1 : Int32} {v2 : Int32} {v3 : Int32} {v4 : Int32} {M : XM} {q : Int32 × XM} (H : f_X9_asking_32 v0 v1 v2 v3 v4 M = some q) : AW l m_X9_asking 3 0 0 (x_Ri q) 0 0 32 [some (.ref v0), some (.int v1), some (.int v2), some (.int v3), some (.int v4), none, none] [] M := by
  unfold f_X9_asking_32 at H
  refine x_iload_n 32 3 dX9_asking_32 rfl rfl ?_
  refine x_iconst 33 (3 : Int32) dX9_asking_33 (by decide) ?_
  refine x_icmp_ne 34 48 dX9_asking_34 (by decide) (fun c9 => ?_) (fun c9 => ?_)
  · replace H := x_ifn c9 H
    exact x_wk (le_s (le_s (le_n (le_s (le_s (le_s (le_s le_0))))))) (t_X9_asking_48 l H)
  · replace H := x_ifp c9 H
    refine x_aload_n 37 0 dX9_asking_37 rfl rfl ?_
    refine x_bipush 38 (40 : Int32) dX9_asking_38 (by decide) ?_
    obtain ⟨h10, H⟩ := x_ckp H
    obtain ⟨M11, e13, H⟩ := x_bv_of H
    refine x_callV 40 286 9 [(.int (40 : Int32))] [] dX9_asking_40 (ct_X9_body l e13) lk_1485 lk_1487 lk_81 (by decide) h10 lk_94 lk_1488 ⟨cn_X9_body, (by decide), by decide⟩ rfl (Nat.le_of_ble_eq_true rfl) (Nat.le_of_ble_eq_true rfl) (Nat.le_of_ble_eq_true rfl) (x_rv ?_)
    exact x_wk (le_s (le_s (le_s (le_s (le_n (le_s (le_s le_0))))))) (t_X9_asking_c40 l H)

def f_X9_asking_c19 (v0 : Nat) (v1 : Int32) (v2 : Int32) (v3 : Int32) (M : XM) : Option (Int32 × XM) :=
  if x_tag M v0 = 9 + 10 then (if x_at M (x_r M v0 11) 1 v1 = true then (f_X9_asking_32 v0 v1 v2 v3 (v2 - (x_i M (x_r M v0 11) v1.toNatClampNeg)) M) else none) else none
set_option maxRecDepth 20000 in
set_option maxHeartbeats 4000000 in
theorem t_X9_asking_c19 (l : Launch) {v0 : Nat} {v1 : Int32} {v2 : Int32} {v3 : Int32} {M : XM} {q : Int32 × XM} (H : f_X9_asking_c19 v0 v1 v2 v3 M = some q) : AW l m_X9_asking 3 0 0 (x_Ri q) 0 0 22 [some (.ref v0), some (.int v1), some (.int v2), some (.int v3), none, none, none] [] M := by
  unfold f_X9_asking_c19 at H
  refine x_iload_n 22 2 dX9_asking_22 rfl rfl ?_
  refine x_aload_n 23 0 dX9_asking_23 rfl rfl ?_
  obtain ⟨h7, H⟩ := x_ckp H
  refine x_getf 24 35 9 11 (.ref (x_r M v0 11)) dX9_asking_24 lk_1041 (by decide) (by decide) rfl (fun _ => rfl) h7 ?_
  refine x_iload_n 27 1 dX9_asking_27 rfl rfl ?_
  obtain ⟨h8, H⟩ := x_ckp H
  refine x_iald 28 dX9_asking_28 h8 ?_
  refine x_isub 29 dX9_asking_29 ?_
  refine x_istore 30 4 [some (.ref v0), some (.int v1), some (.int v2), some (.int v3), some (.int (v2 - (x_i M (x_r M v0 11) v1.toNatClampNeg))), none, none] dX9_asking_30 rfl (Nat.le_of_ble_eq_true rfl) rfl ?_
  exact t_X9_asking_32 l H

def f_X9_asking (v0 : Nat) (v1 : Int32) (v2 : Int32) (M : XM) : Option (Int32 × XM) :=
  if x_tag M v0 = 9 + 10 then (if x_at M (x_r M v0 10) 1 v1 = true then (if (x_i M (x_r M v0 10) v1.toNatClampNeg) = (6 : Int32) then (x_bv (f_X9_body v0 (71 : Int32) M) (f_X9_asking_c19 v0 v1 v2 (x_i M (x_r M v0 10) v1.toNatClampNeg))) else (f_X9_asking_32 v0 v1 v2 (x_i M (x_r M v0 10) v1.toNatClampNeg) v2 M)) else none) else none
set_option maxRecDepth 20000 in
set_option maxHeartbeats 4000000 in
theorem t_X9_asking (l : Launch) {v0 : Nat} {v1 : Int32} {v2 : Int32} {M : XM} {q : Int32 × XM} (H : f_X9_asking v0 v1 v2 M = some q) : AW l m_X9_asking 3 0 0 (x_Ri q) 0 0 0 [some (.ref v0), some (.int v1), some (.int v2), none, none, none, none] [] M := by
  unfold f_X9_asking at H
  refine x_aload_n 0 0 dX9_asking_0 rfl rfl ?_
  obtain ⟨h1, H⟩ := x_ckp H
  refine x_getf 1 32 9 10 (.ref (x_r M v0 10)) dX9_asking_1 lk_1040 (by decide) (by decide) rfl (fun _ => rfl) h1 ?_
  refine x_iload_n 4 1 dX9_asking_4 rfl rfl ?_
  obtain ⟨h2, H⟩ := x_ckp H
  refine x_iald 5 dX9_asking_5 h2 ?_
  refine x_istore_n 6 3 [some (.ref v0), some (.int v1), some (.int v2), some (.int (x_i M (x_r M v0 10) v1.toNatClampNeg)), none, none, none] dX9_asking_6 rfl rfl (Nat.le_of_ble_eq_true rfl) rfl ?_
  refine x_iload_n 7 2 dX9_asking_7 rfl rfl ?_
  refine x_istore 8 4 [some (.ref v0), some (.int v1), some (.int v2), some (.int (x_i M (x_r M v0 10) v1.toNatClampNeg)), some (.int v2), none, none] dX9_asking_8 rfl (Nat.le_of_ble_eq_true rfl) rfl ?_
  refine x_iload_n 10 3 dX9_asking_10 rfl rfl ?_
  refine x_bipush 11 (6 : Int32) dX9_asking_11 (by decide) ?_
  refine x_icmp_ne 13 32 dX9_asking_13 (by decide) (fun c3 => ?_) (fun c3 => ?_)
  · replace H := x_ifn c3 H
    exact t_X9_asking_32 l H
  · replace H := x_ifp c3 H
    refine x_aload_n 16 0 dX9_asking_16 rfl rfl ?_
    refine x_bipush 17 (71 : Int32) dX9_asking_17 (by decide) ?_
    obtain ⟨M4, e6, H⟩ := x_bv_of H
    refine x_callV 19 286 9 [(.int (71 : Int32))] [] dX9_asking_19 (ct_X9_body l e6) lk_1485 lk_1487 lk_81 (by decide) h1 lk_94 lk_1488 ⟨cn_X9_body, (by decide), by decide⟩ rfl (Nat.le_of_ble_eq_true rfl) (Nat.le_of_ble_eq_true rfl) (Nat.le_of_ble_eq_true rfl) (x_rv ?_)
    exact x_wk (le_s (le_s (le_s (le_s (le_n (le_s (le_s le_0))))))) (t_X9_asking_c19 l H)

theorem ct_X9_asking (l : Launch) {v0 : Nat} {v1 : Int32} {v2 : Int32} {M : XM} {q : Int32 × XM} (H : f_X9_asking v0 v1 v2 M = some q) : Ct l m_X9_asking 3 0 0 [(.ref v0), (.int v1), (.int v2)] M (x_Ri q) := x_met l m_X9_asking 3 0 0 [(.ref v0), (.int v1), (.int v2)] M (x_Ri q) _ rfl rfl (Nat.le_of_ble_eq_true rfl) (t_X9_asking l H)
theorem lk_1492 : Cond.code yX9_asking cX9_asking 7 (some .int) ∈ x_TB := x_tb (k := 1492) (by decide +kernel) rfl
theorem lk_1489 : Cond.methodLink RX9 292 yX9_asking ∈ x_TB := x_tb (k := 1489) (by decide +kernel) rfl
theorem lk_82 : Cond.selects RX9 yX9_asking yX9_asking ∈ x_TB := x_tb (k := 82) (by decide +kernel) rfl
theorem lk_1491 : Cond.instanceMethod yX9_asking ∈ x_TB := x_tb (k := 1491) (by decide +kernel) rfl
abbrev m_X9_ending : XU := (yX9_ending, cX9_ending, 5, (some .int))
theorem cn_X9_ending : m_X9_ending.1.cls ≠ "java/lang/invoke/MethodHandle" ∧ m_X9_ending.1.cls ≠ "java/lang/invoke/VarHandle" ∧ (parseMethodDescriptor m_X9_ending.1.desc).map (fun q => q.parameters.length) = some 2 := by decide +kernel
def f_X9_ending_c61 (v3 : Int32) (s1 : Int32) (s0 : Int32) (M : XM) : Option (Int32 × XM) :=
  if v3 = (4 : Int32) then (some ((-(s1 ^^^ s0)), M)) else (if v3 = (6 : Int32) then (some ((-(s1 ^^^ s0)), M)) else (if v3 = (5 : Int32) then (some (((s1 ^^^ s0) ^^^ (5 : Int32)), M)) else (some ((s1 ^^^ s0), M))))
set_option maxRecDepth 20000 in
set_option maxHeartbeats 4000000 in
theorem t_X9_ending_c61 (l : Launch) {v3 : Int32} {s1 : Int32} {s0 : Int32} {M : XM} {q : Int32 × XM} (H : f_X9_ending_c61 v3 s1 s0 M = some q) : AW l m_X9_ending 4 0 0 (x_Ri q) 0 0 64 [none, none, none, some (.int v3), none] [(.int s0), (.int s1)] M := by
  unfold f_X9_ending_c61 at H
  refine x_ixor 64 dX9_ending_64 ?_
  refine x_istore 65 4 [none, none, none, some (.int v3), some (.int (s1 ^^^ s0))] dX9_ending_65 rfl (Nat.le_of_ble_eq_true rfl) rfl ?_
  refine x_iload_n 67 3 dX9_ending_67 rfl rfl ?_
  refine x_iconst 68 (4 : Int32) dX9_ending_68 (by decide) ?_
  refine x_icmp_eq 69 78 dX9_ending_69 (by decide) (fun c26 => ?_) (fun c26 => ?_)
  · replace H := x_ifp c26 H
    refine x_iload 78 4 dX9_ending_78 rfl ?_
    refine x_ineg 80 dX9_ending_80 ?_
    refine x_goto 81 98 dX9_ending_81 (by decide) ?_
    cases H
    exact x_iret 98 dX9_ending_98 .int rfl rfl (Nat.le_of_ble_eq_true rfl) (Nat.le_of_ble_eq_true rfl) ⟨rfl, rfl⟩
  · replace H := x_ifn c26 H
    refine x_iload_n 72 3 dX9_ending_72 rfl rfl ?_
    refine x_bipush 73 (6 : Int32) dX9_ending_73 (by decide) ?_
    refine x_icmp_ne 75 84 dX9_ending_75 (by decide) (fun c27 => ?_) (fun c27 => ?_)
    · replace H := x_ifn c27 H
      refine x_iload_n 84 3 dX9_ending_84 rfl rfl ?_
      refine x_iconst 85 (5 : Int32) dX9_ending_85 (by decide) ?_
      refine x_icmp_ne 86 96 dX9_ending_86 (by decide) (fun c28 => ?_) (fun c28 => ?_)
      · replace H := x_ifn c28 H
        refine x_iload 96 4 dX9_ending_96 rfl ?_
        cases H
        exact x_iret 98 dX9_ending_98 .int rfl rfl (Nat.le_of_ble_eq_true rfl) (Nat.le_of_ble_eq_true rfl) ⟨rfl, rfl⟩
      · replace H := x_ifp c28 H
        refine x_iload 89 4 dX9_ending_89 rfl ?_
        refine x_iconst 91 (5 : Int32) dX9_ending_91 (by decide) ?_
        refine x_ixor 92 dX9_ending_92 ?_
        refine x_goto 93 98 dX9_ending_93 (by decide) ?_
        cases H
        exact x_iret 98 dX9_ending_98 .int rfl rfl (Nat.le_of_ble_eq_true rfl) (Nat.le_of_ble_eq_true rfl) ⟨rfl, rfl⟩
    · replace H := x_ifp c27 H
      refine x_iload 78 4 dX9_ending_78 rfl ?_
      refine x_ineg 80 dX9_ending_80 ?_
      refine x_goto 81 98 dX9_ending_81 (by decide) ?_
      cases H
      exact x_iret 98 dX9_ending_98 .int rfl rfl (Nat.le_of_ble_eq_true rfl) (Nat.le_of_ble_eq_true rfl) ⟨rfl, rfl⟩

def f_X9_ending_c44 (v0 : Nat) (v1 : Int32) (v2 : Int32) (v3 : Int32) (s0 : Int32) (M : XM) : Option (Int32 × XM) :=
  if x_tag M v0 = 9 + 10 then (if x_at M (x_r M v0 11) 1 v1 = true then (x_bd (f_X9_counting v0 v1 (v2 - (x_i M (x_r M v0 11) v1.toNatClampNeg)) M) (f_X9_ending_c61 v3 s0)) else none) else none
set_option maxRecDepth 20000 in
set_option maxHeartbeats 4000000 in
theorem t_X9_ending_c44 (l : Launch) {v0 : Nat} {v1 : Int32} {v2 : Int32} {v3 : Int32} {s0 : Int32} {M : XM} {q : Int32 × XM} (H : f_X9_ending_c44 v0 v1 v2 v3 s0 M = some q) : AW l m_X9_ending 4 0 0 (x_Ri q) 0 0 47 [some (.ref v0), some (.int v1), some (.int v2), some (.int v3), none] [(.int s0)] M := by
  unfold f_X9_ending_c44 at H
  refine x_istore 47 4 [some (.ref v0), some (.int v1), some (.int v2), some (.int v3), some (.int s0)] dX9_ending_47 rfl (Nat.le_of_ble_eq_true rfl) rfl ?_
  refine x_iload 49 4 dX9_ending_49 rfl ?_
  refine x_aload_n 51 0 dX9_ending_51 rfl rfl ?_
  refine x_iload_n 52 1 dX9_ending_52 rfl rfl ?_
  refine x_iload_n 53 2 dX9_ending_53 rfl rfl ?_
  refine x_aload_n 54 0 dX9_ending_54 rfl rfl ?_
  obtain ⟨h21, H⟩ := x_ckp H
  refine x_getf 55 35 9 11 (.ref (x_r M v0 11)) dX9_ending_55 lk_1041 (by decide) (by decide) rfl (fun _ => rfl) h21 ?_
  refine x_iload_n 58 1 dX9_ending_58 rfl rfl ?_
  obtain ⟨h22, H⟩ := x_ckp H
  refine x_iald 59 dX9_ending_59 h22 ?_
  refine x_isub 60 dX9_ending_60 ?_
  obtain ⟨r24, M23, e25, H⟩ := x_bd_of H
  refine x_callV 61 289 9 [(.int v1), (.int (v2 - (x_i M (x_r M v0 11) v1.toNatClampNeg)))] [(.int s0)] dX9_ending_61 (ct_X9_counting l e25) lk_1481 lk_1483 lk_80 (by decide) h21 lk_94 lk_1484 ⟨cn_X9_counting, (by decide), by decide⟩ rfl (Nat.le_of_ble_eq_true rfl) (Nat.le_of_ble_eq_true rfl) (Nat.le_of_ble_eq_true rfl) (x_ri ?_)
  exact x_wk (le_n (le_n (le_n (le_s (le_n le_0))))) (t_X9_ending_c61 l H)

def f_X9_ending_c38 (v0 : Nat) (v1 : Int32) (v2 : Int32) (v3 : Int32) (M : XM) : Option (Int32 × XM) :=
  if x_tag M v0 = 9 + 10 then (x_bd (f_X9_asking v0 v1 v2 M) (f_X9_ending_c44 v0 v1 v2 v3)) else none
set_option maxRecDepth 20000 in
set_option maxHeartbeats 4000000 in
theorem t_X9_ending_c38 (l : Launch) {v0 : Nat} {v1 : Int32} {v2 : Int32} {v3 : Int32} {M : XM} {q : Int32 × XM} (H : f_X9_ending_c38 v0 v1 v2 v3 M = some q) : AW l m_X9_ending 4 0 0 (x_Ri q) 0 0 41 [some (.ref v0), some (.int v1), some (.int v2), some (.int v3), none] [] M := by
  unfold f_X9_ending_c38 at H
  refine x_aload_n 41 0 dX9_ending_41 rfl rfl ?_
  refine x_iload_n 42 1 dX9_ending_42 rfl rfl ?_
  refine x_iload_n 43 2 dX9_ending_43 rfl rfl ?_
  obtain ⟨h17, H⟩ := x_ckp H
  obtain ⟨r19, M18, e20, H⟩ := x_bd_of H
  refine x_callV 44 292 9 [(.int v1), (.int v2)] [] dX9_ending_44 (ct_X9_asking l e20) lk_1489 lk_1491 lk_82 (by decide) h17 lk_94 lk_1492 ⟨cn_X9_asking, (by decide), by decide⟩ rfl (Nat.le_of_ble_eq_true rfl) (Nat.le_of_ble_eq_true rfl) (Nat.le_of_ble_eq_true rfl) (x_ri ?_)
  exact t_X9_ending_c44 l H

def f_X9_ending_35 (v0 : Nat) (v1 : Int32) (v2 : Int32) (v3 : Int32) (M : XM) : Option (Int32 × XM) :=
  if x_tag M v0 = 9 + 10 then (x_bv (f_X9_body v0 (12 : Int32) M) (f_X9_ending_c38 v0 v1 v2 v3)) else none
set_option maxRecDepth 20000 in
set_option maxHeartbeats 4000000 in
theorem t_X9_ending_35 (l : Launch) {v0 : Nat} {v1 : Int32} {v2 : Int32} {v3 : Int32} {M : XM} {q : Int32 × XM} (H : f_X9_ending_35 v0 v1 v2 v3 M = some q) : AW l m_X9_ending 4 0 0 (x_Ri q) 0 0 35 [some (.ref v0), some (.int v1), some (.int v2), some (.int v3), none] [] M := by
  unfold f_X9_ending_35 at H
  refine x_aload_n 35 0 dX9_ending_35 rfl rfl ?_
  refine x_bipush 36 (12 : Int32) dX9_ending_36 (by decide) ?_
  obtain ⟨h13, H⟩ := x_ckp H
  obtain ⟨M14, e16, H⟩ := x_bv_of H
  refine x_callV 38 286 9 [(.int (12 : Int32))] [] dX9_ending_38 (ct_X9_body l e16) lk_1485 lk_1487 lk_81 (by decide) h13 lk_94 lk_1488 ⟨cn_X9_body, (by decide), by decide⟩ rfl (Nat.le_of_ble_eq_true rfl) (Nat.le_of_ble_eq_true rfl) (Nat.le_of_ble_eq_true rfl) (x_rv ?_)
  exact t_X9_ending_c38 l H

def f_X9_ending_c32 (v0 : Nat) (v1 : Int32) (v2 : Int32) (v3 : Int32) (M : XM) : Option (Int32 × XM) :=
  f_X9_ending_35 v0 v1 v2 v3 M
set_option maxRecDepth 20000 in
set_option maxHeartbeats 4000000 in
theorem t_X9_ending_c32 (l : Launch) {v0 : Nat} {v1 : Int32} {v2 : Int32} {v3 : Int32} {M : XM} {q : Int32 × XM} (H : f_X9_ending_c32 v0 v1 v2 v3 M = some q) : AW l m_X9_ending 4 0 0 (x_Ri q) 0 0 35 [some (.ref v0), some (.int v1), some (.int v2), some (.int v3), none] [] M := by
  unfold f_X9_ending_c32 at H
  exact t_X9_ending_35 l H

def f_X9_ending_24 (v0 : Nat) (v1 : Int32) (v2 : Int32) (v3 : Int32) (M : XM) : Option (Int32 × XM) :=
  if v3 = (5 : Int32) then (if x_tag M v0 = 9 + 10 then (x_bv (f_X9_body v0 (60 : Int32) M) (f_X9_ending_c32 v0 v1 v2 v3)) else none) else (f_X9_ending_35 v0 v1 v2 v3 M)
set_option maxRecDepth 20000 in
set_option maxHeartbeats 4000000 in
theorem t_X9_ending_24 (l : Launch) {v0 : Nat} {v1 : Int32} {v2 : Int32} {v3 : Int32} {M : XM} {q : Int32 × XM} (H : f_X9_ending_24 v0 v1 v2 v3 M = some q) : AW l m_X9_ending 4 0 0 (x_Ri q) 0 0 24 [some (.ref v0), some (.int v1), some (.int v2), some (.int v3), none] [] M := by
  unfold f_X9_ending_24 at H
  refine x_iload_n 24 3 dX9_ending_24 rfl rfl ?_
  refine x_iconst 25 (5 : Int32) dX9_ending_25 (by decide) ?_
  refine x_icmp_ne 26 35 dX9_ending_26 (by decide) (fun c8 => ?_) (fun c8 => ?_)
  · replace H := x_ifn c8 H
    exact t_X9_ending_35 l H
  · replace H := x_ifp c8 H
    refine x_aload_n 29 0 dX9_ending_29 rfl rfl ?_
    refine x_bipush 30 (60 : Int32) dX9_ending_30 (by decide) ?_
    obtain ⟨h9, H⟩ := x_ckp H
    obtain ⟨M10, e12, H⟩ := x_bv_of H
    refine x_callV 32 286 9 [(.int (60 : Int32))] [] dX9_ending_32 (ct_X9_body l e12) lk_1485 lk_1487 lk_81 (by decide) h9 lk_94 lk_1488 ⟨cn_X9_body, (by decide), by decide⟩ rfl (Nat.le_of_ble_eq_true rfl) (Nat.le_of_ble_eq_true rfl) (Nat.le_of_ble_eq_true rfl) (x_rv ?_)
    exact t_X9_ending_c32 l H

def f_X9_ending_c21 (v0 : Nat) (v1 : Int32) (v2 : Int32) (v3 : Int32) (M : XM) : Option (Int32 × XM) :=
  f_X9_ending_24 v0 v1 v2 v3 M
set_option maxRecDepth 20000 in
set_option maxHeartbeats 4000000 in
theorem t_X9_ending_c21 (l : Launch) {v0 : Nat} {v1 : Int32} {v2 : Int32} {v3 : Int32} {M : XM} {q : Int32 × XM} (H : f_X9_ending_c21 v0 v1 v2 v3 M = some q) : AW l m_X9_ending 4 0 0 (x_Ri q) 0 0 24 [some (.ref v0), some (.int v1), some (.int v2), some (.int v3), none] [] M := by
  unfold f_X9_ending_c21 at H
  exact t_X9_ending_24 l H

def f_X9_ending_18 (v0 : Nat) (v1 : Int32) (v2 : Int32) (v3 : Int32) (M : XM) : Option (Int32 × XM) :=
  if x_tag M v0 = 9 + 10 then (x_bv (f_X9_body v0 (50 : Int32) M) (f_X9_ending_c21 v0 v1 v2 v3)) else none
set_option maxRecDepth 20000 in
set_option maxHeartbeats 4000000 in
theorem t_X9_ending_18 (l : Launch) {v0 : Nat} {v1 : Int32} {v2 : Int32} {v3 : Int32} {M : XM} {q : Int32 × XM} (H : f_X9_ending_18 v0 v1 v2 v3 M = some q) : AW l m_X9_ending 4 0 0 (x_Ri q) 0 0 18 [some (.ref v0), some (.int v1), some (.int v2), some (.int v3), none] [] M := by
  unfold f_X9_ending_18 at H
  refine x_aload_n 18 0 dX9_ending_18 rfl rfl ?_
  refine x_bipush 19 (50 : Int32) dX9_ending_19 (by decide) ?_
  obtain ⟨h4, H⟩ := x_ckp H
  obtain ⟨M5, e7, H⟩ := x_bv_of H
  refine x_callV 21 286 9 [(.int (50 : Int32))] [] dX9_ending_21 (ct_X9_body l e7) lk_1485 lk_1487 lk_81 (by decide) h4 lk_94 lk_1488 ⟨cn_X9_body, (by decide), by decide⟩ rfl (Nat.le_of_ble_eq_true rfl) (Nat.le_of_ble_eq_true rfl) (Nat.le_of_ble_eq_true rfl) (x_rv ?_)
  exact t_X9_ending_c21 l H

def f_X9_ending (v0 : Nat) (v1 : Int32) (v2 : Int32) (M : XM) : Option (Int32 × XM) :=
  if x_tag M v0 = 9 + 10 then (if x_at M (x_r M v0 10) 1 v1 = true then (if (x_i M (x_r M v0 10) v1.toNatClampNeg) = (4 : Int32) then (f_X9_ending_18 v0 v1 v2 (x_i M (x_r M v0 10) v1.toNatClampNeg) M) else (if (x_i M (x_r M v0 10) v1.toNatClampNeg) = (6 : Int32) then (f_X9_ending_18 v0 v1 v2 (x_i M (x_r M v0 10) v1.toNatClampNeg) M) else (f_X9_ending_24 v0 v1 v2 (x_i M (x_r M v0 10) v1.toNatClampNeg) M))) else none) else none
set_option maxRecDepth 20000 in
set_option maxHeartbeats 4000000 in
theorem t_X9_ending (l : Launch) {v0 : Nat} {v1 : Int32} {v2 : Int32} {M : XM} {q : Int32 × XM} (H : f_X9_ending v0 v1 v2 M = some q) : AW l m_X9_ending 4 0 0 (x_Ri q) 0 0 0 [some (.ref v0), some (.int v1), some (.int v2), none, none] [] M := by
  unfold f_X9_ending at H
  refine x_aload_n 0 0 dX9_ending_0 rfl rfl ?_
  obtain ⟨h1, H⟩ := x_ckp H
  refine x_getf 1 32 9 10 (.ref (x_r M v0 10)) dX9_ending_1 lk_1040 (by decide) (by decide) rfl (fun _ => rfl) h1 ?_
  refine x_iload_n 4 1 dX9_ending_4 rfl rfl ?_
  obtain ⟨h2, H⟩ := x_ckp H
  refine x_iald 5 dX9_ending_5 h2 ?_
  refine x_istore_n 6 3 [some (.ref v0), some (.int v1), some (.int v2), some (.int (x_i M (x_r M v0 10) v1.toNatClampNeg)), none] dX9_ending_6 rfl rfl (Nat.le_of_ble_eq_true rfl) rfl ?_
  refine x_iload_n 7 3 dX9_ending_7 rfl rfl ?_
  refine x_iconst 8 (4 : Int32) dX9_ending_8 (by decide) ?_
  refine x_icmp_eq 9 18 dX9_ending_9 (by decide) (fun c3 => ?_) (fun c3 => ?_)
  · replace H := x_ifp c3 H
    exact t_X9_ending_18 l H
  · replace H := x_ifn c3 H
    refine x_iload_n 12 3 dX9_ending_12 rfl rfl ?_
    refine x_bipush 13 (6 : Int32) dX9_ending_13 (by decide) ?_
    refine x_icmp_ne 15 24 dX9_ending_15 (by decide) (fun c29 => ?_) (fun c29 => ?_)
    · replace H := x_ifn c29 H
      exact t_X9_ending_24 l H
    · replace H := x_ifp c29 H
      exact t_X9_ending_18 l H

theorem ct_X9_ending (l : Launch) {v0 : Nat} {v1 : Int32} {v2 : Int32} {M : XM} {q : Int32 × XM} (H : f_X9_ending v0 v1 v2 M = some q) : Ct l m_X9_ending 4 0 0 [(.ref v0), (.int v1), (.int v2)] M (x_Ri q) := x_met l m_X9_ending 4 0 0 [(.ref v0), (.int v1), (.int v2)] M (x_Ri q) _ rfl rfl (Nat.le_of_ble_eq_true rfl) (t_X9_ending l H)
theorem lk_1496 : Cond.code yX9_ending cX9_ending 5 (some .int) ∈ x_TB := x_tb (k := 1496) (by decide +kernel) rfl
theorem lk_1493 : Cond.methodLink RX9 295 yX9_ending ∈ x_TB := x_tb (k := 1493) (by decide +kernel) rfl
theorem lk_83 : Cond.selects RX9 yX9_ending yX9_ending ∈ x_TB := x_tb (k := 83) (by decide +kernel) rfl
theorem lk_1495 : Cond.instanceMethod yX9_ending ∈ x_TB := x_tb (k := 1495) (by decide +kernel) rfl
abbrev m_X9_act : XU := (yX9_act, cX9_act, 4, (some .int))
theorem cn_X9_act : m_X9_act.1.cls ≠ "java/lang/invoke/MethodHandle" ∧ m_X9_act.1.cls ≠ "java/lang/invoke/VarHandle" ∧ (parseMethodDescriptor m_X9_act.1.desc).map (fun q => q.parameters.length) = some 3 := by decide +kernel
def f_X9_act_c7 (v0 : Nat) (v1 : Int32) (v2 : Int32) (v3 : Int32) (s0 : Int32) (M : XM) : Option (Int32 × XM) :=
  if s0 = 0 then (some ((0 : Int32), M)) else (if v2 < 0 then (some ((0 : Int32), M)) else (if v2 ≤ (2 : Int32) then (if v2 = 0 then (if x_tag M v0 = 9 + 10 then (x_bd (f_X9_counting v0 v1 v3 M) (fun r14 M13 => some (r14, M13))) else none) else (if v2 = (1 : Int32) then (if x_tag M v0 = 9 + 10 then (x_bd (f_X9_asking v0 v1 v3 M) (fun r19 M18 => some (r19, M18))) else none) else (if x_tag M v0 = 9 + 10 then (x_bd (f_X9_ending v0 v1 v3 M) (fun r23 M22 => some (r23, M22))) else none))) else (some ((0 : Int32), M))))
set_option maxRecDepth 20000 in
set_option maxHeartbeats 4000000 in
theorem t_X9_act_c7 (l : Launch) {v0 : Nat} {v1 : Int32} {v2 : Int32} {v3 : Int32} {s0 : Int32} {M : XM} {q : Int32 × XM} (H : f_X9_act_c7 v0 v1 v2 v3 s0 M = some q) : AW l m_X9_act 5 0 0 (x_Ri q) 0 0 10 [some (.ref v0), some (.int v1), some (.int v2), some (.int v3)] [(.int s0)] M := by
  unfold f_X9_act_c7 at H
  refine x_if_eq 10 22 dX9_act_10 (by decide) (fun c8 => ?_) (fun c8 => ?_)
  · replace H := x_ifp c8 H
    refine x_iconst 22 (0 : Int32) dX9_act_22 (by decide) ?_
    cases H
    exact x_iret 23 dX9_act_23 .int rfl rfl (Nat.le_of_ble_eq_true rfl) (Nat.le_of_ble_eq_true rfl) ⟨rfl, rfl⟩
  · replace H := x_ifn c8 H
    refine x_iload_n 13 2 dX9_act_13 rfl rfl ?_
    refine x_if_lt 14 22 dX9_act_14 (by decide) (fun c9 => ?_) (fun c9 => ?_)
    · replace H := x_ifp c9 H
      refine x_iconst 22 (0 : Int32) dX9_act_22 (by decide) ?_
      cases H
      exact x_iret 23 dX9_act_23 .int rfl rfl (Nat.le_of_ble_eq_true rfl) (Nat.le_of_ble_eq_true rfl) ⟨rfl, rfl⟩
    · replace H := x_ifn c9 H
      refine x_iload_n 17 2 dX9_act_17 rfl rfl ?_
      refine x_iconst 18 (2 : Int32) dX9_act_18 (by decide) ?_
      refine x_icmp_le 19 24 dX9_act_19 (by decide) (fun c10 => ?_) (fun c10 => ?_)
      · replace H := x_ifp c10 H
        refine x_iload_n 24 2 dX9_act_24 rfl rfl ?_
        refine x_if_ne 25 37 dX9_act_25 (by decide) (fun c11 => ?_) (fun c11 => ?_)
        · replace H := x_ifn c11 H
          refine x_iload_n 37 2 dX9_act_37 rfl rfl ?_
          refine x_iconst 38 (1 : Int32) dX9_act_38 (by decide) ?_
          refine x_icmp_ne 39 51 dX9_act_39 (by decide) (fun c16 => ?_) (fun c16 => ?_)
          · replace H := x_ifn c16 H
            refine x_aload_n 51 0 dX9_act_51 rfl rfl ?_
            refine x_iload_n 52 1 dX9_act_52 rfl rfl ?_
            refine x_iload_n 53 3 dX9_act_53 rfl rfl ?_
            obtain ⟨h21, H⟩ := x_ckp H
            obtain ⟨r23, M22, e24, H⟩ := x_bd_of H
            refine x_callV 54 295 9 [(.int v1), (.int v3)] [] dX9_act_54 (ct_X9_ending l e24) lk_1493 lk_1495 lk_83 (by decide) h21 lk_94 lk_1496 ⟨cn_X9_ending, (by decide), by decide⟩ rfl (Nat.le_of_ble_eq_true rfl) (Nat.le_of_ble_eq_true rfl) (Nat.le_of_ble_eq_true rfl) (x_ri ?_)
            cases H
            exact x_iret 57 dX9_act_57 .int rfl rfl (Nat.le_of_ble_eq_true rfl) (Nat.le_of_ble_eq_true rfl) ⟨rfl, rfl⟩
          · replace H := x_ifp c16 H
            refine x_aload_n 42 0 dX9_act_42 rfl rfl ?_
            refine x_iload_n 43 1 dX9_act_43 rfl rfl ?_
            refine x_iload_n 44 3 dX9_act_44 rfl rfl ?_
            obtain ⟨h17, H⟩ := x_ckp H
            obtain ⟨r19, M18, e20, H⟩ := x_bd_of H
            refine x_callV 45 292 9 [(.int v1), (.int v3)] [] dX9_act_45 (ct_X9_asking l e20) lk_1489 lk_1491 lk_82 (by decide) h17 lk_94 lk_1492 ⟨cn_X9_asking, (by decide), by decide⟩ rfl (Nat.le_of_ble_eq_true rfl) (Nat.le_of_ble_eq_true rfl) (Nat.le_of_ble_eq_true rfl) (x_ri ?_)
            refine x_goto 48 57 dX9_act_48 (by decide) ?_
            cases H
            exact x_iret 57 dX9_act_57 .int rfl rfl (Nat.le_of_ble_eq_true rfl) (Nat.le_of_ble_eq_true rfl) ⟨rfl, rfl⟩
        · replace H := x_ifp c11 H
          refine x_aload_n 28 0 dX9_act_28 rfl rfl ?_
          refine x_iload_n 29 1 dX9_act_29 rfl rfl ?_
          refine x_iload_n 30 3 dX9_act_30 rfl rfl ?_
          obtain ⟨h12, H⟩ := x_ckp H
          obtain ⟨r14, M13, e15, H⟩ := x_bd_of H
          refine x_callV 31 289 9 [(.int v1), (.int v3)] [] dX9_act_31 (ct_X9_counting l e15) lk_1481 lk_1483 lk_80 (by decide) h12 lk_94 lk_1484 ⟨cn_X9_counting, (by decide), by decide⟩ rfl (Nat.le_of_ble_eq_true rfl) (Nat.le_of_ble_eq_true rfl) (Nat.le_of_ble_eq_true rfl) (x_ri ?_)
          refine x_goto 34 57 dX9_act_34 (by decide) ?_
          cases H
          exact x_iret 57 dX9_act_57 .int rfl rfl (Nat.le_of_ble_eq_true rfl) (Nat.le_of_ble_eq_true rfl) ⟨rfl, rfl⟩
      · replace H := x_ifn c10 H
        refine x_iconst 22 (0 : Int32) dX9_act_22 (by decide) ?_
        cases H
        exact x_iret 23 dX9_act_23 .int rfl rfl (Nat.le_of_ble_eq_true rfl) (Nat.le_of_ble_eq_true rfl) ⟨rfl, rfl⟩

def f_X9_act (v0 : Nat) (v1 : Int32) (v2 : Int32) (v3 : Int32) (M : XM) : Option (Int32 × XM) :=
  if x_tag M v0 = 9 + 10 then (x_lt (x_wi M v0 40 (0 : Int32)) (fun M2 => x_bd (f_X9_isCounter v0 v1 M2) (f_X9_act_c7 v0 v1 v2 v3))) else none
set_option maxRecDepth 20000 in
set_option maxHeartbeats 4000000 in
theorem t_X9_act (l : Launch) {v0 : Nat} {v1 : Int32} {v2 : Int32} {v3 : Int32} {M : XM} {q : Int32 × XM} (H : f_X9_act v0 v1 v2 v3 M = some q) : AW l m_X9_act 5 0 0 (x_Ri q) 0 0 0 [some (.ref v0), some (.int v1), some (.int v2), some (.int v3)] [] M := by
  unfold f_X9_act at H
  refine x_aload_n 0 0 dX9_act_0 rfl rfl ?_
  refine x_iconst 1 (0 : Int32) dX9_act_1 (by decide) ?_
  obtain ⟨h1, H⟩ := x_ckp H
  obtain ⟨M2, w3, H⟩ := x_lt_of H
  have h4 : x_tag M2 v0 = 9 + 10 := by rw [w3]; exact h1
  refine x_putI' 2 283 9 40 dX9_act_2 lk_1070 (by decide) (by decide) rfl (Or.inl rfl) (Or.inl rfl) h1 w3 ?_
  refine x_aload_n 5 0 dX9_act_5 rfl rfl ?_
  refine x_iload_n 6 1 dX9_act_6 rfl rfl ?_
  obtain ⟨r6, M5, e7, H⟩ := x_bd_of H
  refine x_callV 7 104 9 [(.int v1)] [] dX9_act_7 (ct_X9_isCounter l e7) lk_1185 lk_1187 lk_38 (by decide) h4 lk_94 lk_1188 ⟨cn_X9_isCounter, (by decide), by decide⟩ rfl (Nat.le_of_ble_eq_true rfl) (Nat.le_of_ble_eq_true rfl) (Nat.le_of_ble_eq_true rfl) (x_ri ?_)
  exact t_X9_act_c7 l H

theorem ct_X9_act (l : Launch) {v0 : Nat} {v1 : Int32} {v2 : Int32} {v3 : Int32} {M : XM} {q : Int32 × XM} (H : f_X9_act v0 v1 v2 v3 M = some q) : Ct l m_X9_act 5 0 0 [(.ref v0), (.int v1), (.int v2), (.int v3)] M (x_Ri q) := x_met l m_X9_act 5 0 0 [(.ref v0), (.int v1), (.int v2), (.int v3)] M (x_Ri q) _ rfl rfl (Nat.le_of_ble_eq_true rfl) (t_X9_act l H)
abbrev m_X9_trace : XU := (yX9_trace, cX9_trace, 2, (some .int))
theorem cn_X9_trace : m_X9_trace.1.cls ≠ "java/lang/invoke/MethodHandle" ∧ m_X9_trace.1.cls ≠ "java/lang/invoke/VarHandle" ∧ (parseMethodDescriptor m_X9_trace.1.desc).map (fun q => q.parameters.length) = some 1 := by decide +kernel
def f_X9_trace (v0 : Nat) (v1 : Int32) (M : XM) : Option (Int32 × XM) :=
  if v1 < 0 then (some ((-1 : Int32), M)) else (if (20 : Int32) ≤ v1 then (some ((-1 : Int32), M)) else (if x_tag M v0 = 9 + 10 then (if (x_i M v0 40) ≤ v1 then (some ((-1 : Int32), M)) else (if x_at M (x_r M v0 39) 1 v1 = true then (some ((x_i M (x_r M v0 39) v1.toNatClampNeg), M)) else none)) else none))
set_option maxRecDepth 20000 in
set_option maxHeartbeats 4000000 in
theorem t_X9_trace (l : Launch) {v0 : Nat} {v1 : Int32} {M : XM} {q : Int32 × XM} (H : f_X9_trace v0 v1 M = some q) : AW l m_X9_trace 1 0 0 (x_Ri q) 0 0 0 [some (.ref v0), some (.int v1)] [] M := by
  unfold f_X9_trace at H
  refine x_iload_n 0 1 dX9_trace_0 rfl rfl ?_
  refine x_if_lt 1 27 dX9_trace_1 (by decide) (fun c1 => ?_) (fun c1 => ?_)
  · replace H := x_ifp c1 H
    refine x_iconst 27 (-1 : Int32) dX9_trace_27 (by decide) ?_
    cases H
    exact x_iret 28 dX9_trace_28 .int rfl rfl (Nat.le_of_ble_eq_true rfl) (Nat.le_of_ble_eq_true rfl) ⟨rfl, rfl⟩
  · replace H := x_ifn c1 H
    refine x_iload_n 4 1 dX9_trace_4 rfl rfl ?_
    refine x_bipush 5 (20 : Int32) dX9_trace_5 (by decide) ?_
    refine x_icmp_ge 7 27 dX9_trace_7 (by decide) (fun c2 => ?_) (fun c2 => ?_)
    · replace H := x_ifp c2 H
      refine x_iconst 27 (-1 : Int32) dX9_trace_27 (by decide) ?_
      cases H
      exact x_iret 28 dX9_trace_28 .int rfl rfl (Nat.le_of_ble_eq_true rfl) (Nat.le_of_ble_eq_true rfl) ⟨rfl, rfl⟩
    · replace H := x_ifn c2 H
      refine x_iload_n 10 1 dX9_trace_10 rfl rfl ?_
      refine x_aload_n 11 0 dX9_trace_11 rfl rfl ?_
      obtain ⟨h3, H⟩ := x_ckp H
      refine x_getf 12 283 9 40 (.int (x_i M v0 40)) dX9_trace_12 lk_1070 (by decide) (by decide) rfl (fun _ => rfl) h3 ?_
      refine x_icmp_ge 15 27 dX9_trace_15 (by decide) (fun c4 => ?_) (fun c4 => ?_)
      · replace H := x_ifp c4 H
        refine x_iconst 27 (-1 : Int32) dX9_trace_27 (by decide) ?_
        cases H
        exact x_iret 28 dX9_trace_28 .int rfl rfl (Nat.le_of_ble_eq_true rfl) (Nat.le_of_ble_eq_true rfl) ⟨rfl, rfl⟩
      · replace H := x_ifn c4 H
        refine x_aload_n 18 0 dX9_trace_18 rfl rfl ?_
        refine x_getf 19 90 9 39 (.ref (x_r M v0 39)) dX9_trace_19 lk_1069 (by decide) (by decide) rfl (fun _ => rfl) h3 ?_
        refine x_iload_n 22 1 dX9_trace_22 rfl rfl ?_
        obtain ⟨h5, H⟩ := x_ckp H
        refine x_iald 23 dX9_trace_23 h5 ?_
        refine x_goto 24 28 dX9_trace_24 (by decide) ?_
        cases H
        exact x_iret 28 dX9_trace_28 .int rfl rfl (Nat.le_of_ble_eq_true rfl) (Nat.le_of_ble_eq_true rfl) ⟨rfl, rfl⟩

theorem ct_X9_trace (l : Launch) {v0 : Nat} {v1 : Int32} {M : XM} {q : Int32 × XM} (H : f_X9_trace v0 v1 M = some q) : Ct l m_X9_trace 1 0 0 [(.ref v0), (.int v1)] M (x_Ri q) := x_met l m_X9_trace 1 0 0 [(.ref v0), (.int v1)] M (x_Ri q) _ rfl rfl (Nat.le_of_ble_eq_true rfl) (t_X9_trace l H)
theorem lk_1071 : Cond.fieldLink RX9 298 RX9 "isKept" "Z" ∈ x_TB := x_tb (k := 1071) (by decide +kernel) rfl
abbrev m_X9_image : XU := (yX9_image, cX9_image, 1, (some .int))
theorem cn_X9_image : m_X9_image.1.cls ≠ "java/lang/invoke/MethodHandle" ∧ m_X9_image.1.cls ≠ "java/lang/invoke/VarHandle" ∧ (parseMethodDescriptor m_X9_image.1.desc).map (fun q => q.parameters.length) = some 0 := by decide +kernel
def f_X9_image_c11 (v0 : Nat) (M : XM) : Option (Int32 × XM) :=
  if x_tag M v0 = 9 + 10 then (some ((x_i M v0 0), M)) else none
set_option maxRecDepth 20000 in
set_option maxHeartbeats 4000000 in
theorem t_X9_image_c11 (l : Launch) {v0 : Nat} {M : XM} {q : Int32 × XM} (H : f_X9_image_c11 v0 M = some q) : AW l m_X9_image 3 0 0 (x_Ri q) 0 0 14 [some (.ref v0)] [] M := by
  unfold f_X9_image_c11 at H
  refine x_aload_n 14 0 dX9_image_14 rfl rfl ?_
  obtain ⟨h8, H⟩ := x_ckp H
  refine x_getf 15 93 9 0 (.int (x_i M v0 0)) dX9_image_15 lk_1030 (by decide) (by decide) rfl (fun _ => rfl) h8 ?_
  cases H
  exact x_iret 18 dX9_image_18 .int rfl rfl (Nat.le_of_ble_eq_true rfl) (Nat.le_of_ble_eq_true rfl) ⟨rfl, rfl⟩

def f_X9_image (v0 : Nat) (M : XM) : Option (Int32 × XM) :=
  if x_tag M v0 = 9 + 10 then (x_lt (x_wi M v0 41 (1 : Int32)) (fun M2 => x_bv (f_X9_all v0 (x_r M2 v0 30) (0 : Int32) M2) (f_X9_image_c11 v0))) else none
set_option maxRecDepth 20000 in
set_option maxHeartbeats 4000000 in
theorem t_X9_image (l : Launch) {v0 : Nat} {M : XM} {q : Int32 × XM} (H : f_X9_image v0 M = some q) : AW l m_X9_image 3 0 0 (x_Ri q) 0 0 0 [some (.ref v0)] [] M := by
  unfold f_X9_image at H
  refine x_aload_n 0 0 dX9_image_0 rfl rfl ?_
  refine x_iconst 1 (1 : Int32) dX9_image_1 (by decide) ?_
  obtain ⟨h1, H⟩ := x_ckp H
  obtain ⟨M2, w3, H⟩ := x_lt_of H
  have h4 : x_tag M2 v0 = 9 + 10 := by rw [w3]; exact h1
  refine x_putI' 2 298 9 41 dX9_image_2 lk_1071 (by decide) (by decide) rfl (Or.inr ⟨rfl, Or.inr rfl⟩) (Or.inl rfl) h1 w3 ?_
  refine x_aload_n 5 0 dX9_image_5 rfl rfl ?_
  refine x_aload_n 6 0 dX9_image_6 rfl rfl ?_
  refine x_getf 7 78 9 30 (.ref (x_r M2 v0 30)) dX9_image_7 lk_1060 (by decide) (by decide) rfl (fun _ => rfl) h4 ?_
  refine x_iconst 10 (0 : Int32) dX9_image_10 (by decide) ?_
  obtain ⟨M5, e7, H⟩ := x_bv_of H
  refine x_callV 11 176 9 [(.ref (x_r M2 v0 30)), (.int (0 : Int32))] [] dX9_image_11 (ct_X9_all l e7) lk_1233 lk_1235 lk_43 (by decide) h4 lk_94 lk_1236 ⟨cn_X9_all, (by decide), by decide⟩ rfl (Nat.le_of_ble_eq_true rfl) (Nat.le_of_ble_eq_true rfl) (Nat.le_of_ble_eq_true rfl) (x_rv ?_)
  exact t_X9_image_c11 l H

theorem ct_X9_image (l : Launch) {v0 : Nat} {M : XM} {q : Int32 × XM} (H : f_X9_image v0 M = some q) : Ct l m_X9_image 3 0 0 [(.ref v0)] M (x_Ri q) := x_met l m_X9_image 3 0 0 [(.ref v0)] M (x_Ri q) _ rfl rfl (Nat.le_of_ble_eq_true rfl) (t_X9_image l H)
abbrev m_X9_restore : XU := (yX9_restore, cX9_restore, 2, (some .int))
theorem cn_X9_restore : m_X9_restore.1.cls ≠ "java/lang/invoke/MethodHandle" ∧ m_X9_restore.1.cls ≠ "java/lang/invoke/VarHandle" ∧ (parseMethodDescriptor m_X9_restore.1.desc).map (fun q => q.parameters.length) = some 0 := by decide +kernel
def f_X9_restore_61 (κ25 : Nat → Int32 → XM → Option (Int32 × XM)) (v0 : Nat) (v1 : Int32) (M : XM) : Option (Int32 × XM) :=
  κ25 v0 (v1 + (1 : Int32)) M
set_option maxRecDepth 20000 in
set_option maxHeartbeats 4000000 in
theorem t_X9_restore_61 (l : Launch) {κ25 : Nat → Int32 → XM → Option (Int32 × XM)} {v0 : Nat} {v1 : Int32} {M : XM} {q : Int32 × XM} (hκ25 : ∀ (v0 : Nat) (v1 : Int32) (M : XM), κ25 v0 v1 M = some q → AW l m_X9_restore 3 0 0 (x_Ri q) 0 0 25 [some (.ref v0), some (.int v1)] [] M) (H : f_X9_restore_61 κ25 v0 v1 M = some q) : AW l m_X9_restore 3 0 0 (x_Ri q) 0 0 61 [some (.ref v0), some (.int v1)] [] M := by
  unfold f_X9_restore_61 at H
  refine x_iinc 61 1 (v1 + (1 : Int32)) [some (.ref v0), some (.int (v1 + (1 : Int32)))] dX9_restore_61 rfl (congrArg (fun z : Int32 => v1 + z) (show Int32.ofInt (1) = (1 : Int32) by decide)) rfl (Nat.le_of_ble_eq_true rfl) rfl ?_
  refine x_goto 64 25 dX9_restore_64 (by decide) ?_
  exact hκ25 _ _ _ H

def bd_X9_restore_25 (κ25 : Nat → Int32 → XM → Option (Int32 × XM)) (v0 : Nat) (v1 : Int32) (M : XM) : Option (Int32 × XM) :=
  if (8 : Int32) ≤ v1 then (if x_tag M v0 = 9 + 10 then (some ((x_i M v0 0), M)) else none) else (if x_tag M v0 = 9 + 10 then (if x_at M (x_r M v0 16) 1 v1 = true then (if (x_i M (x_r M v0 16) v1.toNatClampNeg) = (2 : Int32) then (if x_at M (x_r M v0 19) 1 v1 = true then (if (x_i M (x_r M v0 19) v1.toNatClampNeg) < (x_i M v0 0) then (f_X9_restore_61 κ25 v0 v1 M) else (x_lt (x_wi M (x_r M v0 16) v1.toNatClampNeg (0 : Int32)) (fun M16 => f_X9_restore_61 κ25 v0 v1 M16))) else none) else (f_X9_restore_61 κ25 v0 v1 M)) else none) else none)
set_option maxRecDepth 20000 in
set_option maxHeartbeats 4000000 in
theorem tb_X9_restore_25 (l : Launch) {κ25 : Nat → Int32 → XM → Option (Int32 × XM)} {v0 : Nat} {v1 : Int32} {M : XM} {q : Int32 × XM} (hκ25 : ∀ (v0 : Nat) (v1 : Int32) (M : XM), κ25 v0 v1 M = some q → AW l m_X9_restore 3 0 0 (x_Ri q) 0 0 25 [some (.ref v0), some (.int v1)] [] M) (H : bd_X9_restore_25 κ25 v0 v1 M = some q) : AW l m_X9_restore 3 0 0 (x_Ri q) 0 0 25 [some (.ref v0), some (.int v1)] [] M := by
  unfold bd_X9_restore_25 at H
  refine x_iload_n 25 1 dX9_restore_25 rfl rfl ?_
  refine x_bipush 26 (8 : Int32) dX9_restore_26 (by decide) ?_
  refine x_icmp_ge 28 67 dX9_restore_28 (by decide) (fun c9 => ?_) (fun c9 => ?_)
  · replace H := x_ifp c9 H
    refine x_aload_n 67 0 dX9_restore_67 rfl rfl ?_
    obtain ⟨h10, H⟩ := x_ckp H
    refine x_getf 68 93 9 0 (.int (x_i M v0 0)) dX9_restore_68 lk_1030 (by decide) (by decide) rfl (fun _ => rfl) h10 ?_
    cases H
    exact x_iret 71 dX9_restore_71 .int rfl rfl (Nat.le_of_ble_eq_true rfl) (Nat.le_of_ble_eq_true rfl) ⟨rfl, rfl⟩
  · replace H := x_ifn c9 H
    refine x_aload_n 31 0 dX9_restore_31 rfl rfl ?_
    obtain ⟨h11, H⟩ := x_ckp H
    refine x_getf 32 50 9 16 (.ref (x_r M v0 16)) dX9_restore_32 lk_1046 (by decide) (by decide) rfl (fun _ => rfl) h11 ?_
    refine x_iload_n 35 1 dX9_restore_35 rfl rfl ?_
    obtain ⟨h12, H⟩ := x_ckp H
    refine x_iald 36 dX9_restore_36 h12 ?_
    refine x_iconst 37 (2 : Int32) dX9_restore_37 (by decide) ?_
    refine x_icmp_ne 38 61 dX9_restore_38 (by decide) (fun c13 => ?_) (fun c13 => ?_)
    · replace H := x_ifn c13 H
      exact t_X9_restore_61 l hκ25 H
    · replace H := x_ifp c13 H
      refine x_aload_n 41 0 dX9_restore_41 rfl rfl ?_
      refine x_getf 42 59 9 19 (.ref (x_r M v0 19)) dX9_restore_42 lk_1049 (by decide) (by decide) rfl (fun _ => rfl) h11 ?_
      refine x_iload_n 45 1 dX9_restore_45 rfl rfl ?_
      obtain ⟨h14, H⟩ := x_ckp H
      refine x_iald 46 dX9_restore_46 h14 ?_
      refine x_aload_n 47 0 dX9_restore_47 rfl rfl ?_
      refine x_getf 48 93 9 0 (.int (x_i M v0 0)) dX9_restore_48 lk_1030 (by decide) (by decide) rfl (fun _ => rfl) h11 ?_
      refine x_icmp_lt 51 61 dX9_restore_51 (by decide) (fun c15 => ?_) (fun c15 => ?_)
      · replace H := x_ifp c15 H
        exact t_X9_restore_61 l hκ25 H
      · replace H := x_ifn c15 H
        refine x_aload_n 54 0 dX9_restore_54 rfl rfl ?_
        refine x_getf 55 50 9 16 (.ref (x_r M v0 16)) dX9_restore_55 lk_1046 (by decide) (by decide) rfl (fun _ => rfl) h11 ?_
        refine x_iload_n 58 1 dX9_restore_58 rfl rfl ?_
        refine x_iconst 59 (0 : Int32) dX9_restore_59 (by decide) ?_
        obtain ⟨M16, w17, H⟩ := x_lt_of H
        have h18 : x_tag M16 v0 = 9 + 10 := by rw [w17]; exact h11
        have h19 : x_at M16 (x_r M v0 16) 1 v1 = true := by rw [w17]; exact h12
        have h20 : x_tag M16 (x_r M v0 16) = 1 := by rw [w17]; exact (x_at_1 h12)
        have h21 : x_at M16 (x_r M v0 19) 1 v1 = true := by rw [w17]; exact h14
        have h22 : x_tag M16 (x_r M v0 19) = 1 := by rw [w17]; exact (x_at_1 h14)
        refine x_iast' 60 dX9_restore_60 h12 w17 ?_
        exact t_X9_restore_61 l hκ25 H

def lp_X9_restore_25 (n : Nat) : Nat → Int32 → XM → Option (Int32 × XM) := x_rec (fun _ _ _ => none) (bd_X9_restore_25) n
theorem t_X9_restore_25 (l : Launch) {q : Int32 × XM} : ∀ (n : Nat) (v0 : Nat) (v1 : Int32) (M : XM), lp_X9_restore_25 n v0 v1 M = some q → AW l m_X9_restore 3 0 0 (x_Ri q) 0 0 25 [some (.ref v0), some (.int v1)] [] M := by
  intro n
  induction n with
  | zero => intro v0 v1 M H; cases H
  | succ n ih => intro v0 v1 M H; exact tb_X9_restore_25 l ih H
def f_X9_restore_c20 (v0 : Nat) (M : XM) : Option (Int32 × XM) :=
  lp_X9_restore_25 x_fuel v0 (0 : Int32) M
set_option maxRecDepth 20000 in
set_option maxHeartbeats 4000000 in
theorem t_X9_restore_c20 (l : Launch) {v0 : Nat} {M : XM} {q : Int32 × XM} (H : f_X9_restore_c20 v0 M = some q) : AW l m_X9_restore 3 0 0 (x_Ri q) 0 0 23 [some (.ref v0), none] [] M := by
  unfold f_X9_restore_c20 at H
  refine x_iconst 23 (0 : Int32) dX9_restore_23 (by decide) ?_
  refine x_istore_n 24 1 [some (.ref v0), some (.int (0 : Int32))] dX9_restore_24 rfl rfl (Nat.le_of_ble_eq_true rfl) rfl ?_
  exact t_X9_restore_25 l _ _ _ _ H

def f_X9_restore (v0 : Nat) (M : XM) : Option (Int32 × XM) :=
  if x_tag M v0 = 9 + 10 then (if (x_i M v0 41) = 0 then (x_bd (f_X9_no v0 (-6 : Int32) M) (fun r4 M3 => some (r4, M3))) else (x_bv (f_X9_all v0 (x_r M v0 30) (1 : Int32) M) (f_X9_restore_c20 v0))) else none
set_option maxRecDepth 20000 in
set_option maxHeartbeats 4000000 in
theorem t_X9_restore (l : Launch) {v0 : Nat} {M : XM} {q : Int32 × XM} (H : f_X9_restore v0 M = some q) : AW l m_X9_restore 3 0 0 (x_Ri q) 0 0 0 [some (.ref v0), none] [] M := by
  unfold f_X9_restore at H
  refine x_aload_n 0 0 dX9_restore_0 rfl rfl ?_
  obtain ⟨h1, H⟩ := x_ckp H
  refine x_getf 1 298 9 41 (.int (x_i M v0 41)) dX9_restore_1 lk_1071 (by decide) (by decide) rfl (fun _ => rfl) h1 ?_
  refine x_if_ne 4 14 dX9_restore_4 (by decide) (fun c2 => ?_) (fun c2 => ?_)
  · replace H := x_ifn c2 H
    refine x_aload_n 14 0 dX9_restore_14 rfl rfl ?_
    refine x_aload_n 15 0 dX9_restore_15 rfl rfl ?_
    refine x_getf 16 78 9 30 (.ref (x_r M v0 30)) dX9_restore_16 lk_1060 (by decide) (by decide) rfl (fun _ => rfl) h1 ?_
    refine x_iconst 19 (1 : Int32) dX9_restore_19 (by decide) ?_
    obtain ⟨M6, e8, H⟩ := x_bv_of H
    refine x_callV 20 176 9 [(.ref (x_r M v0 30)), (.int (1 : Int32))] [] dX9_restore_20 (ct_X9_all l e8) lk_1233 lk_1235 lk_43 (by decide) h1 lk_94 lk_1236 ⟨cn_X9_all, (by decide), by decide⟩ rfl (Nat.le_of_ble_eq_true rfl) (Nat.le_of_ble_eq_true rfl) (Nat.le_of_ble_eq_true rfl) (x_rv ?_)
    exact t_X9_restore_c20 l H
  · replace H := x_ifp c2 H
    refine x_aload_n 7 0 dX9_restore_7 rfl rfl ?_
    refine x_bipush 8 (-6 : Int32) dX9_restore_8 (by decide) ?_
    obtain ⟨r4, M3, e5, H⟩ := x_bd_of H
    refine x_callV 10 100 9 [(.int (-6 : Int32))] [] dX9_restore_10 (ct_X9_no l e5) lk_1165 lk_1167 lk_37 (by decide) h1 lk_94 lk_1168 ⟨cn_X9_no, (by decide), by decide⟩ rfl (Nat.le_of_ble_eq_true rfl) (Nat.le_of_ble_eq_true rfl) (Nat.le_of_ble_eq_true rfl) (x_ri ?_)
    cases H
    exact x_iret 13 dX9_restore_13 .int rfl rfl (Nat.le_of_ble_eq_true rfl) (Nat.le_of_ble_eq_true rfl) ⟨rfl, rfl⟩

theorem ct_X9_restore (l : Launch) {v0 : Nat} {M : XM} {q : Int32 × XM} (H : f_X9_restore v0 M = some q) : Ct l m_X9_restore 3 0 0 [(.ref v0)] M (x_Ri q) := x_met l m_X9_restore 3 0 0 [(.ref v0)] M (x_Ri q) _ rfl rfl (Nat.le_of_ble_eq_true rfl) (t_X9_restore l H)
abbrev m_X9_status : XU := (yX9_status, cX9_status, 4, (some .int))
theorem cn_X9_status : m_X9_status.1.cls ≠ "java/lang/invoke/MethodHandle" ∧ m_X9_status.1.cls ≠ "java/lang/invoke/VarHandle" ∧ (parseMethodDescriptor m_X9_status.1.desc).map (fun q => q.parameters.length) = some 1 := by decide +kernel
def f_X9_status_107 (κ83 : Nat → Int32 → Int32 → XM → Option (Int32 × XM)) (v0 : Nat) (v2 : Int32) (v3 : Int32) (M : XM) : Option (Int32 × XM) :=
  κ83 v0 v2 (v3 + (1 : Int32)) M
set_option maxRecDepth 20000 in
set_option maxHeartbeats 4000000 in
theorem t_X9_status_107 (l : Launch) {κ83 : Nat → Int32 → Int32 → XM → Option (Int32 × XM)} {v0 : Nat} {v2 : Int32} {v3 : Int32} {M : XM} {q : Int32 × XM} (hκ83 : ∀ (v0 : Nat) (v2 : Int32) (v3 : Int32) (M : XM), κ83 v0 v2 v3 M = some q → AW l m_X9_status 1 0 0 (x_Ri q) 0 0 83 [some (.ref v0), none, some (.int v2), some (.int v3)] [] M) (H : f_X9_status_107 κ83 v0 v2 v3 M = some q) : AW l m_X9_status 1 0 0 (x_Ri q) 0 0 107 [some (.ref v0), none, some (.int v2), some (.int v3)] [] M := by
  unfold f_X9_status_107 at H
  refine x_iinc 107 3 (v3 + (1 : Int32)) [some (.ref v0), none, some (.int v2), some (.int (v3 + (1 : Int32)))] dX9_status_107 rfl (congrArg (fun z : Int32 => v3 + z) (show Int32.ofInt (1) = (1 : Int32) by decide)) rfl (Nat.le_of_ble_eq_true rfl) rfl ?_
  refine x_goto 110 83 dX9_status_110 (by decide) ?_
  exact hκ83 _ _ _ _ H

def bd_X9_status_83 (κ83 : Nat → Int32 → Int32 → XM → Option (Int32 × XM)) (v0 : Nat) (v2 : Int32) (v3 : Int32) (M : XM) : Option (Int32 × XM) :=
  if x_tag M v0 = 9 + 10 then (if (x_i M v0 0) ≤ v3 then (some (v2, M)) else (if x_at M (x_r M v0 12) 1 v3 = true then (if (x_i M (x_r M v0 12) v3.toNatClampNeg) = (x_i M v0 1) then (f_X9_status_107 κ83 v0 (v2 + (1 : Int32)) v3 M) else (f_X9_status_107 κ83 v0 v2 v3 M)) else none)) else none
set_option maxRecDepth 20000 in
set_option maxHeartbeats 4000000 in
theorem tb_X9_status_83 (l : Launch) {κ83 : Nat → Int32 → Int32 → XM → Option (Int32 × XM)} {v0 : Nat} {v2 : Int32} {v3 : Int32} {M : XM} {q : Int32 × XM} (hκ83 : ∀ (v0 : Nat) (v2 : Int32) (v3 : Int32) (M : XM), κ83 v0 v2 v3 M = some q → AW l m_X9_status 1 0 0 (x_Ri q) 0 0 83 [some (.ref v0), none, some (.int v2), some (.int v3)] [] M) (H : bd_X9_status_83 κ83 v0 v2 v3 M = some q) : AW l m_X9_status 1 0 0 (x_Ri q) 0 0 83 [some (.ref v0), none, some (.int v2), some (.int v3)] [] M := by
  unfold bd_X9_status_83 at H
  refine x_iload_n 83 3 dX9_status_83 rfl rfl ?_
  refine x_aload_n 84 0 dX9_status_84 rfl rfl ?_
  obtain ⟨h5, H⟩ := x_ckp H
  refine x_getf 85 93 9 0 (.int (x_i M v0 0)) dX9_status_85 lk_1030 (by decide) (by decide) rfl (fun _ => rfl) h5 ?_
  refine x_icmp_ge 88 113 dX9_status_88 (by decide) (fun c6 => ?_) (fun c6 => ?_)
  · replace H := x_ifp c6 H
    refine x_iload_n 113 2 dX9_status_113 rfl rfl ?_
    cases H
    exact x_iret 114 dX9_status_114 .int rfl rfl (Nat.le_of_ble_eq_true rfl) (Nat.le_of_ble_eq_true rfl) ⟨rfl, rfl⟩
  · replace H := x_ifn c6 H
    refine x_aload_n 91 0 dX9_status_91 rfl rfl ?_
    refine x_getf 92 38 9 12 (.ref (x_r M v0 12)) dX9_status_92 lk_1042 (by decide) (by decide) rfl (fun _ => rfl) h5 ?_
    refine x_iload_n 95 3 dX9_status_95 rfl rfl ?_
    obtain ⟨h7, H⟩ := x_ckp H
    refine x_iald 96 dX9_status_96 h7 ?_
    refine x_aload_n 97 0 dX9_status_97 rfl rfl ?_
    refine x_getf 98 7 9 1 (.int (x_i M v0 1)) dX9_status_98 lk_1031 (by decide) (by decide) rfl (fun _ => rfl) h5 ?_
    refine x_icmp_ne 101 107 dX9_status_101 (by decide) (fun c8 => ?_) (fun c8 => ?_)
    · replace H := x_ifn c8 H
      exact t_X9_status_107 l hκ83 H
    · replace H := x_ifp c8 H
      refine x_iinc 104 2 (v2 + (1 : Int32)) [some (.ref v0), none, some (.int (v2 + (1 : Int32))), some (.int v3)] dX9_status_104 rfl (congrArg (fun z : Int32 => v2 + z) (show Int32.ofInt (1) = (1 : Int32) by decide)) rfl (Nat.le_of_ble_eq_true rfl) rfl ?_
      exact t_X9_status_107 l hκ83 H

def lp_X9_status_83 (n : Nat) : Nat → Int32 → Int32 → XM → Option (Int32 × XM) := x_rec (fun _ _ _ _ => none) (bd_X9_status_83) n
theorem t_X9_status_83 (l : Launch) {q : Int32 × XM} : ∀ (n : Nat) (v0 : Nat) (v2 : Int32) (v3 : Int32) (M : XM), lp_X9_status_83 n v0 v2 v3 M = some q → AW l m_X9_status 1 0 0 (x_Ri q) 0 0 83 [some (.ref v0), none, some (.int v2), some (.int v3)] [] M := by
  intro n
  induction n with
  | zero => intro v0 v2 v3 M H; cases H
  | succ n ih => intro v0 v2 v3 M H; exact tb_X9_status_83 l ih H
def f_X9_status_22 (v0 : Nat) (v1 : Int32) (M : XM) : Option (Int32 × XM) :=
  if v1 = (0 : Int32) then (if x_tag M v0 = 9 + 10 then (some ((x_i M v0 0), M)) else none) else if v1 = (1 : Int32) then (lp_X9_status_83 x_fuel v0 (0 : Int32) (0 : Int32) M) else if v1 = (2 : Int32) then (if x_tag M v0 = 9 + 10 then (some ((x_i M v0 1), M)) else none) else if v1 = (3 : Int32) then (if x_tag M v0 = 9 + 10 then (some ((x_i M v0 2), M)) else none) else if v1 = (4 : Int32) then (if x_tag M v0 = 9 + 10 then (some ((x_i M v0 3), M)) else none) else if v1 = (5 : Int32) then (if x_tag M v0 = 9 + 10 then (some ((x_i M v0 4), M)) else none) else if v1 = (6 : Int32) then (if x_tag M v0 = 9 + 10 then (some ((x_i M v0 5), M)) else none) else if v1 = (7 : Int32) then (if x_tag M v0 = 9 + 10 then (some ((x_i M v0 7), M)) else none) else if v1 = (8 : Int32) then (if x_tag M v0 = 9 + 10 then (some ((x_i M v0 40), M)) else none) else some ((-1 : Int32), M)
set_option maxRecDepth 20000 in
set_option maxHeartbeats 4000000 in
theorem t_X9_status_22 (l : Launch) {v0 : Nat} {v1 : Int32} {M : XM} {q : Int32 × XM} (H : f_X9_status_22 v0 v1 M = some q) : AW l m_X9_status 1 0 0 (x_Ri q) 0 0 22 [some (.ref v0), some (.int v1), none, none] [] M := by
  unfold f_X9_status_22 at H
  refine x_iconst 22 (0 : Int32) dX9_status_22 (by decide) ?_
  refine x_istore_n 23 2 [some (.ref v0), some (.int v1), some (.int (0 : Int32)), none] dX9_status_23 rfl rfl (Nat.le_of_ble_eq_true rfl) rfl ?_
  refine x_iload_n 24 1 dX9_status_24 rfl rfl ?_
  by_cases c2 : v1 = (0 : Int32)
  · replace H := x_ifp c2 H
    refine x_tableIn (off := 51) 25 76 dX9_status_25 (by rw [c2]; decide) (by rw [c2]; decide) (by rw [c2]; rfl) (by decide) ?_
    refine x_aload_n 76 0 dX9_status_76 rfl rfl ?_
    obtain ⟨h3, H⟩ := x_ckp H
    refine x_getf 77 93 9 0 (.int (x_i M v0 0)) dX9_status_77 lk_1030 (by decide) (by decide) rfl (fun _ => rfl) h3 ?_
    cases H
    exact x_iret 80 dX9_status_80 .int rfl rfl (Nat.le_of_ble_eq_true rfl) (Nat.le_of_ble_eq_true rfl) ⟨rfl, rfl⟩
  · replace H := x_ifn c2 H
    by_cases c4 : v1 = (1 : Int32)
    · replace H := x_ifp c4 H
      refine x_tableIn (off := 56) 25 81 dX9_status_25 (by rw [c4]; decide) (by rw [c4]; decide) (by rw [c4]; rfl) (by decide) ?_
      refine x_iconst 81 (0 : Int32) dX9_status_81 (by decide) ?_
      refine x_istore_n 82 3 [some (.ref v0), some (.int v1), some (.int (0 : Int32)), some (.int (0 : Int32))] dX9_status_82 rfl rfl (Nat.le_of_ble_eq_true rfl) rfl ?_
      exact x_wk (le_s (le_n (le_s (le_s le_0)))) (t_X9_status_83 l _ _ _ _ _ H)
    · replace H := x_ifn c4 H
      by_cases c9 : v1 = (2 : Int32)
      · replace H := x_ifp c9 H
        refine x_tableIn (off := 90) 25 115 dX9_status_25 (by rw [c9]; decide) (by rw [c9]; decide) (by rw [c9]; rfl) (by decide) ?_
        refine x_aload_n 115 0 dX9_status_115 rfl rfl ?_
        obtain ⟨h10, H⟩ := x_ckp H
        refine x_getf 116 7 9 1 (.int (x_i M v0 1)) dX9_status_116 lk_1031 (by decide) (by decide) rfl (fun _ => rfl) h10 ?_
        cases H
        exact x_iret 119 dX9_status_119 .int rfl rfl (Nat.le_of_ble_eq_true rfl) (Nat.le_of_ble_eq_true rfl) ⟨rfl, rfl⟩
      · replace H := x_ifn c9 H
        by_cases c11 : v1 = (3 : Int32)
        · replace H := x_ifp c11 H
          refine x_tableIn (off := 95) 25 120 dX9_status_25 (by rw [c11]; decide) (by rw [c11]; decide) (by rw [c11]; rfl) (by decide) ?_
          refine x_aload_n 120 0 dX9_status_120 rfl rfl ?_
          obtain ⟨h12, H⟩ := x_ckp H
          refine x_getf 121 13 9 2 (.int (x_i M v0 2)) dX9_status_121 lk_1032 (by decide) (by decide) rfl (fun _ => rfl) h12 ?_
          cases H
          exact x_iret 124 dX9_status_124 .int rfl rfl (Nat.le_of_ble_eq_true rfl) (Nat.le_of_ble_eq_true rfl) ⟨rfl, rfl⟩
        · replace H := x_ifn c11 H
          by_cases c13 : v1 = (4 : Int32)
          · replace H := x_ifp c13 H
            refine x_tableIn (off := 100) 25 125 dX9_status_25 (by rw [c13]; decide) (by rw [c13]; decide) (by rw [c13]; rfl) (by decide) ?_
            refine x_aload_n 125 0 dX9_status_125 rfl rfl ?_
            obtain ⟨h14, H⟩ := x_ckp H
            refine x_getf 126 16 9 3 (.int (x_i M v0 3)) dX9_status_126 lk_1033 (by decide) (by decide) rfl (fun _ => rfl) h14 ?_
            cases H
            exact x_iret 129 dX9_status_129 .int rfl rfl (Nat.le_of_ble_eq_true rfl) (Nat.le_of_ble_eq_true rfl) ⟨rfl, rfl⟩
          · replace H := x_ifn c13 H
            by_cases c15 : v1 = (5 : Int32)
            · replace H := x_ifp c15 H
              refine x_tableIn (off := 105) 25 130 dX9_status_25 (by rw [c15]; decide) (by rw [c15]; decide) (by rw [c15]; rfl) (by decide) ?_
              refine x_aload_n 130 0 dX9_status_130 rfl rfl ?_
              obtain ⟨h16, H⟩ := x_ckp H
              refine x_getf 131 19 9 4 (.int (x_i M v0 4)) dX9_status_131 lk_1034 (by decide) (by decide) rfl (fun _ => rfl) h16 ?_
              cases H
              exact x_iret 134 dX9_status_134 .int rfl rfl (Nat.le_of_ble_eq_true rfl) (Nat.le_of_ble_eq_true rfl) ⟨rfl, rfl⟩
            · replace H := x_ifn c15 H
              by_cases c17 : v1 = (6 : Int32)
              · replace H := x_ifp c17 H
                refine x_tableIn (off := 110) 25 135 dX9_status_25 (by rw [c17]; decide) (by rw [c17]; decide) (by rw [c17]; rfl) (by decide) ?_
                refine x_aload_n 135 0 dX9_status_135 rfl rfl ?_
                obtain ⟨h18, H⟩ := x_ckp H
                refine x_getf 136 173 9 5 (.int (x_i M v0 5)) dX9_status_136 lk_1035 (by decide) (by decide) rfl (fun _ => rfl) h18 ?_
                cases H
                exact x_iret 139 dX9_status_139 .int rfl rfl (Nat.le_of_ble_eq_true rfl) (Nat.le_of_ble_eq_true rfl) ⟨rfl, rfl⟩
              · replace H := x_ifn c17 H
                by_cases c19 : v1 = (7 : Int32)
                · replace H := x_ifp c19 H
                  refine x_tableIn (off := 115) 25 140 dX9_status_25 (by rw [c19]; decide) (by rw [c19]; decide) (by rw [c19]; rfl) (by decide) ?_
                  refine x_aload_n 140 0 dX9_status_140 rfl rfl ?_
                  obtain ⟨h20, H⟩ := x_ckp H
                  refine x_getf 141 22 9 7 (.int (x_i M v0 7)) dX9_status_141 lk_1037 (by decide) (by decide) rfl (fun _ => rfl) h20 ?_
                  cases H
                  exact x_iret 144 dX9_status_144 .int rfl rfl (Nat.le_of_ble_eq_true rfl) (Nat.le_of_ble_eq_true rfl) ⟨rfl, rfl⟩
                · replace H := x_ifn c19 H
                  by_cases c21 : v1 = (8 : Int32)
                  · replace H := x_ifp c21 H
                    refine x_tableIn (off := 120) 25 145 dX9_status_25 (by rw [c21]; decide) (by rw [c21]; decide) (by rw [c21]; rfl) (by decide) ?_
                    refine x_aload_n 145 0 dX9_status_145 rfl rfl ?_
                    obtain ⟨h22, H⟩ := x_ckp H
                    refine x_getf 146 283 9 40 (.int (x_i M v0 40)) dX9_status_146 lk_1070 (by decide) (by decide) rfl (fun _ => rfl) h22 ?_
                    cases H
                    exact x_iret 149 dX9_status_149 .int rfl rfl (Nat.le_of_ble_eq_true rfl) (Nat.le_of_ble_eq_true rfl) ⟨rfl, rfl⟩
                  · replace H := x_ifn c21 H
                    refine x_tableOut 25 150 dX9_status_25 (by have n0 := lv_neT (a := 0) c2 (by decide); have n1 := lv_neT (a := 1) c4 (by decide); have n2 := lv_neT (a := 2) c9 (by decide); have n3 := lv_neT (a := 3) c11 (by decide); have n4 := lv_neT (a := 4) c13 (by decide); have n5 := lv_neT (a := 5) c15 (by decide); have n6 := lv_neT (a := 6) c17 (by decide); have n7 := lv_neT (a := 7) c19 (by decide); have n8 := lv_neT (a := 8) c21 (by decide); omega) (by decide) ?_
                    refine x_iconst 150 (-1 : Int32) dX9_status_150 (by decide) ?_
                    cases H
                    exact x_iret 151 dX9_status_151 .int rfl rfl (Nat.le_of_ble_eq_true rfl) (Nat.le_of_ble_eq_true rfl) ⟨rfl, rfl⟩

def f_X9_status (v0 : Nat) (v1 : Int32) (M : XM) : Option (Int32 × XM) :=
  if v1 < (11 : Int32) then (f_X9_status_22 v0 v1 M) else (if (17 : Int32) < v1 then (f_X9_status_22 v0 v1 M) else (if x_tag M v0 = 9 + 10 then (if x_at M (x_r M v0 9) 1 (v1 - (10 : Int32)) = true then (some ((x_i M (x_r M v0 9) (v1 - (10 : Int32)).toNatClampNeg), M)) else none) else none))
set_option maxRecDepth 20000 in
set_option maxHeartbeats 4000000 in
theorem t_X9_status (l : Launch) {v0 : Nat} {v1 : Int32} {M : XM} {q : Int32 × XM} (H : f_X9_status v0 v1 M = some q) : AW l m_X9_status 1 0 0 (x_Ri q) 0 0 0 [some (.ref v0), some (.int v1), none, none] [] M := by
  unfold f_X9_status at H
  refine x_iload_n 0 1 dX9_status_0 rfl rfl ?_
  refine x_bipush 1 (11 : Int32) dX9_status_1 (by decide) ?_
  refine x_icmp_lt 3 22 dX9_status_3 (by decide) (fun c1 => ?_) (fun c1 => ?_)
  · replace H := x_ifp c1 H
    exact t_X9_status_22 l H
  · replace H := x_ifn c1 H
    refine x_iload_n 6 1 dX9_status_6 rfl rfl ?_
    refine x_bipush 7 (17 : Int32) dX9_status_7 (by decide) ?_
    refine x_icmp_gt 9 22 dX9_status_9 (by decide) (fun c23 => ?_) (fun c23 => ?_)
    · replace H := x_ifp c23 H
      exact t_X9_status_22 l H
    · replace H := x_ifn c23 H
      refine x_aload_n 12 0 dX9_status_12 rfl rfl ?_
      obtain ⟨h24, H⟩ := x_ckp H
      refine x_getf 13 28 9 9 (.ref (x_r M v0 9)) dX9_status_13 lk_1039 (by decide) (by decide) rfl (fun _ => rfl) h24 ?_
      refine x_iload_n 16 1 dX9_status_16 rfl rfl ?_
      refine x_bipush 17 (10 : Int32) dX9_status_17 (by decide) ?_
      refine x_isub 19 dX9_status_19 ?_
      obtain ⟨h25, H⟩ := x_ckp H
      refine x_iald 20 dX9_status_20 h25 ?_
      cases H
      exact x_iret 21 dX9_status_21 .int rfl rfl (Nat.le_of_ble_eq_true rfl) (Nat.le_of_ble_eq_true rfl) ⟨rfl, rfl⟩

theorem ct_X9_status (l : Launch) {v0 : Nat} {v1 : Int32} {M : XM} {q : Int32 × XM} (H : f_X9_status v0 v1 M = some q) : Ct l m_X9_status 1 0 0 [(.ref v0), (.int v1)] M (x_Ri q) := x_met l m_X9_status 1 0 0 [(.ref v0), (.int v1)] M (x_Ri q) _ rfl rfl (Nat.le_of_ble_eq_true rfl) (t_X9_status l H)
