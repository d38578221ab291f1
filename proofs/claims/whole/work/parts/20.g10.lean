abbrev m_X9_ends : XU := (yX9_ends, cX9_ends, 3, none)
theorem cn_X9_ends : m_X9_ends.1.cls ≠ "java/lang/invoke/MethodHandle" ∧ m_X9_ends.1.cls ≠ "java/lang/invoke/VarHandle" ∧ (parseMethodDescriptor m_X9_ends.1.desc).map (fun q => q.parameters.length) = some 1 := by decide +kernel
def f_X9_ends_46 (κ7 : Nat → Int32 → XM → Option XM) (v0 : Nat) (v2 : Int32) (s0 : Int32) (s1 : Int32) (s2 : Nat) (M : XM) : Option XM :=
  if x_at M s2 1 s1 = true then (x_lt (x_wi M s2 s1.toNatClampNeg s0) (fun M10 => κ7 v0 (v2 + (1 : Int32)) M10)) else none
set_option maxRecDepth 20000 in
set_option maxHeartbeats 4000000 in
theorem t_X9_ends_46 (l : Launch) {κ7 : Nat → Int32 → XM → Option XM} {v0 : Nat} {v2 : Int32} {s0 : Int32} {s1 : Int32} {s2 : Nat} {M : XM} {q : XM} (hκ7 : ∀ (v0 : Nat) (v2 : Int32) (M : XM), κ7 v0 v2 M = some q → AW l m_X9_ends 1 0 0 (x_Rv q) 0 0 7 [some (.ref v0), none, some (.int v2)] [] M) (H : f_X9_ends_46 κ7 v0 v2 s0 s1 s2 M = some q) : AW l m_X9_ends 1 0 0 (x_Rv q) 0 0 46 [some (.ref v0), none, some (.int v2)] [(.int s0), (.int s1), (.ref s2)] M := by
  unfold f_X9_ends_46 at H
  obtain ⟨h9, H⟩ := x_ckp H
  obtain ⟨M10, w11, H⟩ := x_lt_of H
  have h12 : x_at M10 s2 1 s1 = true := by rw [w11]; exact h9
  have h13 : x_tag M10 s2 = 1 := by rw [w11]; exact (x_at_1 h9)
  refine x_iast' 46 dX9_ends_46 h9 w11 ?_
  refine x_iinc 47 2 (v2 + (1 : Int32)) [some (.ref v0), none, some (.int (v2 + (1 : Int32)))] dX9_ends_47 rfl (congrArg (fun z : Int32 => v2 + z) (show Int32.ofInt (1) = (1 : Int32) by decide)) rfl (Nat.le_of_ble_eq_true rfl) rfl ?_
  refine x_goto 50 7 dX9_ends_50 (by decide) ?_
  exact hκ7 _ _ _ H

def bd_X9_ends_7 (κ7 : Nat → Int32 → XM → Option XM) (v0 : Nat) (v2 : Int32) (M : XM) : Option XM :=
  if x_tag M v0 = 9 + 10 then (if (x_i M v0 0) ≤ v2 then (some M) else (if x_at M (x_r M v0 12) 1 v2 = true then (if (x_i M (x_r M v0 12) v2.toNatClampNeg) ≤ (x_i M v0 1) then (f_X9_ends_46 κ7 v0 v2 (x_i M (x_r M v0 12) v2.toNatClampNeg) v2 (x_r M v0 12) M) else (f_X9_ends_46 κ7 v0 v2 (x_i M v0 1) v2 (x_r M v0 12) M)) else none)) else none
set_option maxRecDepth 20000 in
set_option maxHeartbeats 4000000 in
theorem tb_X9_ends_7 (l : Launch) {κ7 : Nat → Int32 → XM → Option XM} {v0 : Nat} {v2 : Int32} {M : XM} {q : XM} (hκ7 : ∀ (v0 : Nat) (v2 : Int32) (M : XM), κ7 v0 v2 M = some q → AW l m_X9_ends 1 0 0 (x_Rv q) 0 0 7 [some (.ref v0), none, some (.int v2)] [] M) (H : bd_X9_ends_7 κ7 v0 v2 M = some q) : AW l m_X9_ends 1 0 0 (x_Rv q) 0 0 7 [some (.ref v0), none, some (.int v2)] [] M := by
  unfold bd_X9_ends_7 at H
  refine x_iload_n 7 2 dX9_ends_7 rfl rfl ?_
  refine x_aload_n 8 0 dX9_ends_8 rfl rfl ?_
  obtain ⟨h5, H⟩ := x_ckp H
  refine x_getf 9 93 9 0 (.int (x_i M v0 0)) dX9_ends_9 lk_1030 (by decide) (by decide) rfl (fun _ => rfl) h5 ?_
  refine x_icmp_ge 12 53 dX9_ends_12 (by decide) (fun c6 => ?_) (fun c6 => ?_)
  · replace H := x_ifp c6 H
    cases H
    exact x_vret 53 dX9_ends_53 rfl (Nat.le_of_ble_eq_true rfl) (Nat.le_of_ble_eq_true rfl) ⟨rfl, rfl⟩
  · replace H := x_ifn c6 H
    refine x_aload_n 15 0 dX9_ends_15 rfl rfl ?_
    refine x_getf 16 38 9 12 (.ref (x_r M v0 12)) dX9_ends_16 lk_1042 (by decide) (by decide) rfl (fun _ => rfl) h5 ?_
    refine x_iload_n 19 2 dX9_ends_19 rfl rfl ?_
    refine x_aload_n 20 0 dX9_ends_20 rfl rfl ?_
    refine x_getf 21 38 9 12 (.ref (x_r M v0 12)) dX9_ends_21 lk_1042 (by decide) (by decide) rfl (fun _ => rfl) h5 ?_
    refine x_iload_n 24 2 dX9_ends_24 rfl rfl ?_
    obtain ⟨h7, H⟩ := x_ckp H
    refine x_iald 25 dX9_ends_25 h7 ?_
    refine x_aload_n 26 0 dX9_ends_26 rfl rfl ?_
    refine x_getf 27 7 9 1 (.int (x_i M v0 1)) dX9_ends_27 lk_1031 (by decide) (by decide) rfl (fun _ => rfl) h5 ?_
    refine x_icmp_le 30 40 dX9_ends_30 (by decide) (fun c8 => ?_) (fun c8 => ?_)
    · replace H := x_ifp c8 H
      refine x_aload_n 40 0 dX9_ends_40 rfl rfl ?_
      refine x_getf 41 38 9 12 (.ref (x_r M v0 12)) dX9_ends_41 lk_1042 (by decide) (by decide) rfl (fun _ => rfl) h5 ?_
      refine x_iload_n 44 2 dX9_ends_44 rfl rfl ?_
      refine x_iald 45 dX9_ends_45 h7 ?_
      exact t_X9_ends_46 l hκ7 H
    · replace H := x_ifn c8 H
      refine x_aload_n 33 0 dX9_ends_33 rfl rfl ?_
      refine x_getf 34 7 9 1 (.int (x_i M v0 1)) dX9_ends_34 lk_1031 (by decide) (by decide) rfl (fun _ => rfl) h5 ?_
      refine x_goto 37 46 dX9_ends_37 (by decide) ?_
      exact t_X9_ends_46 l hκ7 H

def lp_X9_ends_7 (n : Nat) : Nat → Int32 → XM → Option XM := x_rec (fun _ _ _ => none) (bd_X9_ends_7) n
theorem t_X9_ends_7 (l : Launch) {q : XM} : ∀ (n : Nat) (v0 : Nat) (v2 : Int32) (M : XM), lp_X9_ends_7 n v0 v2 M = some q → AW l m_X9_ends 1 0 0 (x_Rv q) 0 0 7 [some (.ref v0), none, some (.int v2)] [] M := by
  intro n
  induction n with
  | zero => intro v0 v2 M H; cases H
  | succ n ih => intro v0 v2 M H; exact tb_X9_ends_7 l ih H
def f_X9_ends (v0 : Nat) (v1 : Int32) (M : XM) : Option XM :=
  if x_tag M v0 = 9 + 10 then (x_lt (x_wi M v0 1 v1) (fun M2 => lp_X9_ends_7 x_fuel v0 (0 : Int32) M2)) else none
set_option maxRecDepth 20000 in
set_option maxHeartbeats 4000000 in
theorem t_X9_ends (l : Launch) {v0 : Nat} {v1 : Int32} {M : XM} {q : XM} (H : f_X9_ends v0 v1 M = some q) : AW l m_X9_ends 1 0 0 (x_Rv q) 0 0 0 [some (.ref v0), some (.int v1), none] [] M := by
  unfold f_X9_ends at H
  refine x_aload_n 0 0 dX9_ends_0 rfl rfl ?_
  refine x_iload_n 1 1 dX9_ends_1 rfl rfl ?_
  obtain ⟨h1, H⟩ := x_ckp H
  obtain ⟨M2, w3, H⟩ := x_lt_of H
  have h4 : x_tag M2 v0 = 9 + 10 := by rw [w3]; exact h1
  refine x_putI' 2 7 9 1 dX9_ends_2 lk_1031 (by decide) (by decide) rfl (Or.inl rfl) (Or.inl rfl) h1 w3 ?_
  refine x_iconst 5 (0 : Int32) dX9_ends_5 (by decide) ?_
  refine x_istore_n 6 2 [some (.ref v0), some (.int v1), some (.int (0 : Int32))] dX9_ends_6 rfl rfl (Nat.le_of_ble_eq_true rfl) rfl ?_
  exact x_wk (le_s (le_n (le_s le_0))) (t_X9_ends_7 l _ _ _ _ H)

theorem ct_X9_ends (l : Launch) {v0 : Nat} {v1 : Int32} {M : XM} {q : XM} (H : f_X9_ends v0 v1 M = some q) : Ct l m_X9_ends 1 0 0 [(.ref v0), (.int v1)] M (x_Rv q) := x_met l m_X9_ends 1 0 0 [(.ref v0), (.int v1)] M (x_Rv q) _ rfl rfl (Nat.le_of_ble_eq_true rfl) (t_X9_ends l H)
abbrev m_X9_isAsked : XU := (yX9_isAsked, cX9_isAsked, 3, (some .boolean))
theorem cn_X9_isAsked : m_X9_isAsked.1.cls ≠ "java/lang/invoke/MethodHandle" ∧ m_X9_isAsked.1.cls ≠ "java/lang/invoke/VarHandle" ∧ (parseMethodDescriptor m_X9_isAsked.1.desc).map (fun q => q.parameters.length) = some 2 := by decide +kernel
def f_X9_isAsked_43 (s0 : Int32) (s1 : Int32) (M : XM) : Option (Int32 × XM) :=
  if s0 < s1 then (some ((0 : Int32), M)) else (some ((1 : Int32), M))
set_option maxRecDepth 20000 in
set_option maxHeartbeats 4000000 in
theorem t_X9_isAsked_43 (l : Launch) {s0 : Int32} {s1 : Int32} {M : XM} {q : Int32 × XM} (H : f_X9_isAsked_43 s0 s1 M = some q) : AW l m_X9_isAsked 1 0 0 (x_Ri q) 0 0 43 [none, none, none] [(.int s0), (.int s1)] M := by
  unfold f_X9_isAsked_43 at H
  refine x_icmp_gt 43 50 dX9_isAsked_43 (by decide) (fun c4 => ?_) (fun c4 => ?_)
  · replace H := x_ifp c4 H
    refine x_iconst 50 (0 : Int32) dX9_isAsked_50 (by decide) ?_
    cases H
    exact x_iret 51 dX9_isAsked_51 .boolean rfl rfl (Nat.le_of_ble_eq_true rfl) (Nat.le_of_ble_eq_true rfl) ⟨rfl, rfl⟩
  · replace H := x_ifn c4 H
    refine x_iconst 46 (1 : Int32) dX9_isAsked_46 (by decide) ?_
    refine x_goto 47 51 dX9_isAsked_47 (by decide) ?_
    cases H
    exact x_iret 51 dX9_isAsked_51 .boolean rfl rfl (Nat.le_of_ble_eq_true rfl) (Nat.le_of_ble_eq_true rfl) ⟨rfl, rfl⟩

def f_X9_isAsked (v0 : Nat) (v1 : Int32) (v2 : Int32) (M : XM) : Option (Int32 × XM) :=
  if (2 : Int32) ≤ v1 then (if v2 < 0 then (some ((0 : Int32), M)) else (if v1 = (2 : Int32) then (f_X9_isAsked_43 (1000 : Int32) v2 M) else (f_X9_isAsked_43 (99 : Int32) v2 M))) else (if v2 < (1 : Int32) then (some ((0 : Int32), M)) else (if (200 : Int32) < v2 then (some ((0 : Int32), M)) else (some ((1 : Int32), M))))
set_option maxRecDepth 20000 in
set_option maxHeartbeats 4000000 in
theorem t_X9_isAsked (l : Launch) {v0 : Nat} {v1 : Int32} {v2 : Int32} {M : XM} {q : Int32 × XM} (H : f_X9_isAsked v0 v1 v2 M = some q) : AW l m_X9_isAsked 1 0 0 (x_Ri q) 0 0 0 [some (.ref v0), some (.int v1), some (.int v2)] [] M := by
  unfold f_X9_isAsked at H
  refine x_iload_n 0 1 dX9_isAsked_0 rfl rfl ?_
  refine x_iconst 1 (2 : Int32) dX9_isAsked_1 (by decide) ?_
  refine x_icmp_ge 2 25 dX9_isAsked_2 (by decide) (fun c1 => ?_) (fun c1 => ?_)
  · replace H := x_ifp c1 H
    refine x_iload_n 25 2 dX9_isAsked_25 rfl rfl ?_
    refine x_if_lt 26 50 dX9_isAsked_26 (by decide) (fun c2 => ?_) (fun c2 => ?_)
    · replace H := x_ifp c2 H
      refine x_iconst 50 (0 : Int32) dX9_isAsked_50 (by decide) ?_
      cases H
      exact x_iret 51 dX9_isAsked_51 .boolean rfl rfl (Nat.le_of_ble_eq_true rfl) (Nat.le_of_ble_eq_true rfl) ⟨rfl, rfl⟩
    · replace H := x_ifn c2 H
      refine x_iload_n 29 2 dX9_isAsked_29 rfl rfl ?_
      refine x_iload_n 30 1 dX9_isAsked_30 rfl rfl ?_
      refine x_iconst 31 (2 : Int32) dX9_isAsked_31 (by decide) ?_
      refine x_icmp_ne 32 41 dX9_isAsked_32 (by decide) (fun c3 => ?_) (fun c3 => ?_)
      · replace H := x_ifn c3 H
        refine x_bipush 41 (99 : Int32) dX9_isAsked_41 (by decide) ?_
        exact x_wk (le_n (le_n (le_n le_0))) (t_X9_isAsked_43 l H)
      · replace H := x_ifp c3 H
        refine x_sipush 35 (1000 : Int32) dX9_isAsked_35 (by decide) ?_
        refine x_goto 38 43 dX9_isAsked_38 (by decide) ?_
        exact x_wk (le_n (le_n (le_n le_0))) (t_X9_isAsked_43 l H)
  · replace H := x_ifn c1 H
    refine x_iload_n 5 2 dX9_isAsked_5 rfl rfl ?_
    refine x_iconst 6 (1 : Int32) dX9_isAsked_6 (by decide) ?_
    refine x_icmp_lt 7 21 dX9_isAsked_7 (by decide) (fun c5 => ?_) (fun c5 => ?_)
    · replace H := x_ifp c5 H
      refine x_iconst 21 (0 : Int32) dX9_isAsked_21 (by decide) ?_
      refine x_goto 22 51 dX9_isAsked_22 (by decide) ?_
      cases H
      exact x_iret 51 dX9_isAsked_51 .boolean rfl rfl (Nat.le_of_ble_eq_true rfl) (Nat.le_of_ble_eq_true rfl) ⟨rfl, rfl⟩
    · replace H := x_ifn c5 H
      refine x_iload_n 10 2 dX9_isAsked_10 rfl rfl ?_
      refine x_sipush 11 (200 : Int32) dX9_isAsked_11 (by decide) ?_
      refine x_icmp_gt 14 21 dX9_isAsked_14 (by decide) (fun c6 => ?_) (fun c6 => ?_)
      · replace H := x_ifp c6 H
        refine x_iconst 21 (0 : Int32) dX9_isAsked_21 (by decide) ?_
        refine x_goto 22 51 dX9_isAsked_22 (by decide) ?_
        cases H
        exact x_iret 51 dX9_isAsked_51 .boolean rfl rfl (Nat.le_of_ble_eq_true rfl) (Nat.le_of_ble_eq_true rfl) ⟨rfl, rfl⟩
      · replace H := x_ifn c6 H
        refine x_iconst 17 (1 : Int32) dX9_isAsked_17 (by decide) ?_
        refine x_goto 18 51 dX9_isAsked_18 (by decide) ?_
        cases H
        exact x_iret 51 dX9_isAsked_51 .boolean rfl rfl (Nat.le_of_ble_eq_true rfl) (Nat.le_of_ble_eq_true rfl) ⟨rfl, rfl⟩

theorem ct_X9_isAsked (l : Launch) {v0 : Nat} {v1 : Int32} {v2 : Int32} {M : XM} {q : Int32 × XM} (H : f_X9_isAsked v0 v1 v2 M = some q) : Ct l m_X9_isAsked 1 0 0 [(.ref v0), (.int v1), (.int v2)] M (x_Ri q) := x_met l m_X9_isAsked 1 0 0 [(.ref v0), (.int v1), (.int v2)] M (x_Ri q) _ rfl rfl (Nat.le_of_ble_eq_true rfl) (t_X9_isAsked l H)
theorem lk_1216 : Cond.code yX9_isAsked cX9_isAsked 3 (some .boolean) ∈ x_TB := x_tb (k := 1216) (by decide +kernel) rfl
theorem lk_1213 : Cond.methodLink RX9 117 yX9_isAsked ∈ x_TB := x_tb (k := 1213) (by decide +kernel) rfl
theorem lk_40 : Cond.selects RX9 yX9_isAsked yX9_isAsked ∈ x_TB := x_tb (k := 40) (by decide +kernel) rfl
theorem lk_1215 : Cond.instanceMethod yX9_isAsked ∈ x_TB := x_tb (k := 1215) (by decide +kernel) rfl
theorem lk_1220 : Cond.code yX9_ends cX9_ends 3 none ∈ x_TB := x_tb (k := 1220) (by decide +kernel) rfl
theorem lk_1217 : Cond.methodLink RX9 121 yX9_ends ∈ x_TB := x_tb (k := 1217) (by decide +kernel) rfl
theorem lk_41 : Cond.selects RX9 yX9_ends yX9_ends ∈ x_TB := x_tb (k := 41) (by decide +kernel) rfl
theorem lk_1219 : Cond.instanceMethod yX9_ends ∈ x_TB := x_tb (k := 1219) (by decide +kernel) rfl
abbrev m_X9_ask : XU := (yX9_ask, cX9_ask, 4, (some .int))
theorem cn_X9_ask : m_X9_ask.1.cls ≠ "java/lang/invoke/MethodHandle" ∧ m_X9_ask.1.cls ≠ "java/lang/invoke/VarHandle" ∧ (parseMethodDescriptor m_X9_ask.1.desc).map (fun q => q.parameters.length) = some 2 := by decide +kernel
def f_X9_ask_18 (v0 : Nat) (M : XM) : Option (Int32 × XM) :=
  if x_tag M v0 = 9 + 10 then (x_bd (f_X9_no v0 (-6 : Int32) M) (fun r4 M3 => some (r4, M3))) else none
set_option maxRecDepth 20000 in
set_option maxHeartbeats 4000000 in
theorem t_X9_ask_18 (l : Launch) {v0 : Nat} {M : XM} {q : Int32 × XM} (H : f_X9_ask_18 v0 M = some q) : AW l m_X9_ask 2 0 0 (x_Ri q) 0 0 18 [some (.ref v0), none, none, none] [] M := by
  unfold f_X9_ask_18 at H
  refine x_aload_n 18 0 dX9_ask_18 rfl rfl ?_
  refine x_bipush 19 (-6 : Int32) dX9_ask_19 (by decide) ?_
  obtain ⟨h2, H⟩ := x_ckp H
  obtain ⟨r4, M3, e5, H⟩ := x_bd_of H
  refine x_callV 21 100 9 [(.int (-6 : Int32))] [] dX9_ask_21 (ct_X9_no l e5) lk_1165 lk_1167 lk_37 (by decide) h2 lk_94 lk_1168 ⟨cn_X9_no, (by decide), by decide⟩ rfl (Nat.le_of_ble_eq_true rfl) (Nat.le_of_ble_eq_true rfl) (Nat.le_of_ble_eq_true rfl) (x_ri ?_)
  cases H
  exact x_iret 24 dX9_ask_24 .int rfl rfl (Nat.le_of_ble_eq_true rfl) (Nat.le_of_ble_eq_true rfl) ⟨rfl, rfl⟩

def f_X9_ask_64 (v0 : Nat) (v1 : Int32) (v2 : Int32) (s0 : Int32) (M : XM) : Option (Int32 × XM) :=
  if v1 = (0 : Int32) then (if x_tag M v0 = 9 + 10 then (x_bv (f_X9_ends v0 v2 M) (fun M16 => some (s0, M16))) else none) else if v1 = (1 : Int32) then (if x_tag M v0 = 9 + 10 then (x_lt (x_wi M v0 2 v2) (fun M21 => some (s0, M21))) else none) else if v1 = (2 : Int32) then (if x_tag M v0 = 9 + 10 then (x_lt (x_wi M v0 3 v2) (fun M26 => some (s0, M26))) else none) else if x_tag M v0 = 9 + 10 then (x_lt (x_wi M v0 4 v2) (fun M30 => some (s0, M30))) else none
set_option maxRecDepth 20000 in
set_option maxHeartbeats 4000000 in
theorem t_X9_ask_64 (l : Launch) {v0 : Nat} {v1 : Int32} {v2 : Int32} {s0 : Int32} {M : XM} {q : Int32 × XM} (H : f_X9_ask_64 v0 v1 v2 s0 M = some q) : AW l m_X9_ask 2 0 0 (x_Ri q) 0 0 64 [some (.ref v0), some (.int v1), some (.int v2), none] [(.int s0)] M := by
  unfold f_X9_ask_64 at H
  refine x_istore_n 64 3 [some (.ref v0), some (.int v1), some (.int v2), some (.int s0)] dX9_ask_64 rfl rfl (Nat.le_of_ble_eq_true rfl) rfl ?_
  refine x_iload_n 65 1 dX9_ask_65 rfl rfl ?_
  by_cases c14 : v1 = (0 : Int32)
  · replace H := x_ifp c14 H
    refine x_tableIn (off := 26) 66 92 dX9_ask_66 (by rw [c14]; decide) (by rw [c14]; decide) (by rw [c14]; rfl) (by decide) ?_
    refine x_aload_n 92 0 dX9_ask_92 rfl rfl ?_
    refine x_iload_n 93 2 dX9_ask_93 rfl rfl ?_
    obtain ⟨h15, H⟩ := x_ckp H
    obtain ⟨M16, e18, H⟩ := x_bv_of H
    refine x_callV 94 121 9 [(.int v2)] [] dX9_ask_94 (ct_X9_ends l e18) lk_1217 lk_1219 lk_41 (by decide) h15 lk_94 lk_1220 ⟨cn_X9_ends, (by decide), by decide⟩ rfl (Nat.le_of_ble_eq_true rfl) (Nat.le_of_ble_eq_true rfl) (Nat.le_of_ble_eq_true rfl) (x_rv ?_)
    refine x_goto 97 121 dX9_ask_97 (by decide) ?_
    refine x_iload_n 121 3 dX9_ask_121 rfl rfl ?_
    cases H
    exact x_iret 122 dX9_ask_122 .int rfl rfl (Nat.le_of_ble_eq_true rfl) (Nat.le_of_ble_eq_true rfl) ⟨rfl, rfl⟩
  · replace H := x_ifn c14 H
    by_cases c19 : v1 = (1 : Int32)
    · replace H := x_ifp c19 H
      refine x_tableIn (off := 34) 66 100 dX9_ask_66 (by rw [c19]; decide) (by rw [c19]; decide) (by rw [c19]; rfl) (by decide) ?_
      refine x_aload_n 100 0 dX9_ask_100 rfl rfl ?_
      refine x_iload_n 101 2 dX9_ask_101 rfl rfl ?_
      obtain ⟨h20, H⟩ := x_ckp H
      obtain ⟨M21, w22, H⟩ := x_lt_of H
      have h23 : x_tag M21 v0 = 9 + 10 := by rw [w22]; exact h20
      refine x_putI' 102 13 9 2 dX9_ask_102 lk_1032 (by decide) (by decide) rfl (Or.inl rfl) (Or.inl rfl) h20 w22 ?_
      refine x_goto 105 121 dX9_ask_105 (by decide) ?_
      refine x_iload_n 121 3 dX9_ask_121 rfl rfl ?_
      cases H
      exact x_iret 122 dX9_ask_122 .int rfl rfl (Nat.le_of_ble_eq_true rfl) (Nat.le_of_ble_eq_true rfl) ⟨rfl, rfl⟩
    · replace H := x_ifn c19 H
      by_cases c24 : v1 = (2 : Int32)
      · replace H := x_ifp c24 H
        refine x_tableIn (off := 42) 66 108 dX9_ask_66 (by rw [c24]; decide) (by rw [c24]; decide) (by rw [c24]; rfl) (by decide) ?_
        refine x_aload_n 108 0 dX9_ask_108 rfl rfl ?_
        refine x_iload_n 109 2 dX9_ask_109 rfl rfl ?_
        obtain ⟨h25, H⟩ := x_ckp H
        obtain ⟨M26, w27, H⟩ := x_lt_of H
        have h28 : x_tag M26 v0 = 9 + 10 := by rw [w27]; exact h25
        refine x_putI' 110 16 9 3 dX9_ask_110 lk_1033 (by decide) (by decide) rfl (Or.inl rfl) (Or.inl rfl) h25 w27 ?_
        refine x_goto 113 121 dX9_ask_113 (by decide) ?_
        refine x_iload_n 121 3 dX9_ask_121 rfl rfl ?_
        cases H
        exact x_iret 122 dX9_ask_122 .int rfl rfl (Nat.le_of_ble_eq_true rfl) (Nat.le_of_ble_eq_true rfl) ⟨rfl, rfl⟩
      · replace H := x_ifn c24 H
        refine x_tableOut 66 116 dX9_ask_66 (by have n0 := lv_neT (a := 0) c14 (by decide); have n1 := lv_neT (a := 1) c19 (by decide); have n2 := lv_neT (a := 2) c24 (by decide); omega) (by decide) ?_
        refine x_aload_n 116 0 dX9_ask_116 rfl rfl ?_
        refine x_iload_n 117 2 dX9_ask_117 rfl rfl ?_
        obtain ⟨h29, H⟩ := x_ckp H
        obtain ⟨M30, w31, H⟩ := x_lt_of H
        have h32 : x_tag M30 v0 = 9 + 10 := by rw [w31]; exact h29
        refine x_putI' 118 19 9 4 dX9_ask_118 lk_1034 (by decide) (by decide) rfl (Or.inl rfl) (Or.inl rfl) h29 w31 ?_
        refine x_iload_n 121 3 dX9_ask_121 rfl rfl ?_
        cases H
        exact x_iret 122 dX9_ask_122 .int rfl rfl (Nat.le_of_ble_eq_true rfl) (Nat.le_of_ble_eq_true rfl) ⟨rfl, rfl⟩

def f_X9_ask_c12 (v0 : Nat) (v1 : Int32) (v2 : Int32) (s0 : Int32) (M : XM) : Option (Int32 × XM) :=
  if s0 = 0 then (f_X9_ask_18 v0 M) else (if v1 = 0 then (if x_tag M v0 = 9 + 10 then (f_X9_ask_64 v0 v1 v2 (x_i M v0 1) M) else none) else (if v1 = (1 : Int32) then (if x_tag M v0 = 9 + 10 then (f_X9_ask_64 v0 v1 v2 (x_i M v0 2) M) else none) else (if v1 = (2 : Int32) then (if x_tag M v0 = 9 + 10 then (f_X9_ask_64 v0 v1 v2 (x_i M v0 3) M) else none) else (if x_tag M v0 = 9 + 10 then (f_X9_ask_64 v0 v1 v2 (x_i M v0 4) M) else none))))
set_option maxRecDepth 20000 in
set_option maxHeartbeats 4000000 in
theorem t_X9_ask_c12 (l : Launch) {v0 : Nat} {v1 : Int32} {v2 : Int32} {s0 : Int32} {M : XM} {q : Int32 × XM} (H : f_X9_ask_c12 v0 v1 v2 s0 M = some q) : AW l m_X9_ask 2 0 0 (x_Ri q) 0 0 15 [some (.ref v0), some (.int v1), some (.int v2), none] [(.int s0)] M := by
  unfold f_X9_ask_c12 at H
  refine x_if_ne 15 25 dX9_ask_15 (by decide) (fun c11 => ?_) (fun c11 => ?_)
  · replace H := x_ifn c11 H
    refine x_iload_n 25 1 dX9_ask_25 rfl rfl ?_
    refine x_if_ne 26 36 dX9_ask_26 (by decide) (fun c12 => ?_) (fun c12 => ?_)
    · replace H := x_ifn c12 H
      refine x_iload_n 36 1 dX9_ask_36 rfl rfl ?_
      refine x_iconst 37 (1 : Int32) dX9_ask_37 (by decide) ?_
      refine x_icmp_ne 38 48 dX9_ask_38 (by decide) (fun c33 => ?_) (fun c33 => ?_)
      · replace H := x_ifn c33 H
        refine x_iload_n 48 1 dX9_ask_48 rfl rfl ?_
        refine x_iconst 49 (2 : Int32) dX9_ask_49 (by decide) ?_
        refine x_icmp_ne 50 60 dX9_ask_50 (by decide) (fun c35 => ?_) (fun c35 => ?_)
        · replace H := x_ifn c35 H
          refine x_aload_n 60 0 dX9_ask_60 rfl rfl ?_
          obtain ⟨h37, H⟩ := x_ckp H
          refine x_getf 61 19 9 4 (.int (x_i M v0 4)) dX9_ask_61 lk_1034 (by decide) (by decide) rfl (fun _ => rfl) h37 ?_
          exact t_X9_ask_64 l H
        · replace H := x_ifp c35 H
          refine x_aload_n 53 0 dX9_ask_53 rfl rfl ?_
          obtain ⟨h36, H⟩ := x_ckp H
          refine x_getf 54 16 9 3 (.int (x_i M v0 3)) dX9_ask_54 lk_1033 (by decide) (by decide) rfl (fun _ => rfl) h36 ?_
          refine x_goto 57 64 dX9_ask_57 (by decide) ?_
          exact t_X9_ask_64 l H
      · replace H := x_ifp c33 H
        refine x_aload_n 41 0 dX9_ask_41 rfl rfl ?_
        obtain ⟨h34, H⟩ := x_ckp H
        refine x_getf 42 13 9 2 (.int (x_i M v0 2)) dX9_ask_42 lk_1032 (by decide) (by decide) rfl (fun _ => rfl) h34 ?_
        refine x_goto 45 64 dX9_ask_45 (by decide) ?_
        exact t_X9_ask_64 l H
    · replace H := x_ifp c12 H
      refine x_aload_n 29 0 dX9_ask_29 rfl rfl ?_
      obtain ⟨h13, H⟩ := x_ckp H
      refine x_getf 30 7 9 1 (.int (x_i M v0 1)) dX9_ask_30 lk_1031 (by decide) (by decide) rfl (fun _ => rfl) h13 ?_
      refine x_goto 33 64 dX9_ask_33 (by decide) ?_
      exact t_X9_ask_64 l H
  · replace H := x_ifp c11 H
    exact x_wk (le_s (le_n (le_n (le_s le_0)))) (t_X9_ask_18 l H)

def f_X9_ask (v0 : Nat) (v1 : Int32) (v2 : Int32) (M : XM) : Option (Int32 × XM) :=
  if v1 < 0 then (f_X9_ask_18 v0 M) else (if (3 : Int32) < v1 then (f_X9_ask_18 v0 M) else (if x_tag M v0 = 9 + 10 then (x_bd (f_X9_isAsked v0 v1 v2 M) (f_X9_ask_c12 v0 v1 v2)) else none))
set_option maxRecDepth 20000 in
set_option maxHeartbeats 4000000 in
theorem t_X9_ask (l : Launch) {v0 : Nat} {v1 : Int32} {v2 : Int32} {M : XM} {q : Int32 × XM} (H : f_X9_ask v0 v1 v2 M = some q) : AW l m_X9_ask 2 0 0 (x_Ri q) 0 0 0 [some (.ref v0), some (.int v1), some (.int v2), none] [] M := by
  unfold f_X9_ask at H
  refine x_iload_n 0 1 dX9_ask_0 rfl rfl ?_
  refine x_if_lt 1 18 dX9_ask_1 (by decide) (fun c1 => ?_) (fun c1 => ?_)
  · replace H := x_ifp c1 H
    exact x_wk (le_s (le_n (le_n (le_s le_0)))) (t_X9_ask_18 l H)
  · replace H := x_ifn c1 H
    refine x_iload_n 4 1 dX9_ask_4 rfl rfl ?_
    refine x_iconst 5 (3 : Int32) dX9_ask_5 (by decide) ?_
    refine x_icmp_gt 6 18 dX9_ask_6 (by decide) (fun c6 => ?_) (fun c6 => ?_)
    · replace H := x_ifp c6 H
      exact x_wk (le_s (le_n (le_n (le_s le_0)))) (t_X9_ask_18 l H)
    · replace H := x_ifn c6 H
      refine x_aload_n 9 0 dX9_ask_9 rfl rfl ?_
      refine x_iload_n 10 1 dX9_ask_10 rfl rfl ?_
      refine x_iload_n 11 2 dX9_ask_11 rfl rfl ?_
      obtain ⟨h7, H⟩ := x_ckp H
      obtain ⟨r9, M8, e10, H⟩ := x_bd_of H
      refine x_callV 12 117 9 [(.int v1), (.int v2)] [] dX9_ask_12 (ct_X9_isAsked l e10) lk_1213 lk_1215 lk_40 (by decide) h7 lk_94 lk_1216 ⟨cn_X9_isAsked, (by decide), by decide⟩ rfl (Nat.le_of_ble_eq_true rfl) (Nat.le_of_ble_eq_true rfl) (Nat.le_of_ble_eq_true rfl) (x_ri ?_)
      exact t_X9_ask_c12 l H

theorem ct_X9_ask (l : Launch) {v0 : Nat} {v1 : Int32} {v2 : Int32} {M : XM} {q : Int32 × XM} (H : f_X9_ask v0 v1 v2 M = some q) : Ct l m_X9_ask 2 0 0 [(.ref v0), (.int v1), (.int v2)] M (x_Ri q) := x_met l m_X9_ask 2 0 0 [(.ref v0), (.int v1), (.int v2)] M (x_Ri q) _ rfl rfl (Nat.le_of_ble_eq_true rfl) (t_X9_ask l H)
abbrev m_X9_put : XU := (yX9_put, cX9_put, 4, (some .int))
theorem cn_X9_put : m_X9_put.1.cls ≠ "java/lang/invoke/MethodHandle" ∧ m_X9_put.1.cls ≠ "java/lang/invoke/VarHandle" ∧ (parseMethodDescriptor m_X9_put.1.desc).map (fun q => q.parameters.length) = some 2 := by decide +kernel
def f_X9_put_26 (v0 : Nat) (M : XM) : Option (Int32 × XM) :=
  if x_tag M v0 = 9 + 10 then (x_bd (f_X9_no v0 (-6 : Int32) M) (fun r13 M12 => some (r13, M12))) else none
set_option maxRecDepth 20000 in
set_option maxHeartbeats 4000000 in
theorem t_X9_put_26 (l : Launch) {v0 : Nat} {M : XM} {q : Int32 × XM} (H : f_X9_put_26 v0 M = some q) : AW l m_X9_put 2 0 0 (x_Ri q) 0 0 26 [some (.ref v0), none, none, none] [] M := by
  unfold f_X9_put_26 at H
  refine x_aload_n 26 0 dX9_put_26 rfl rfl ?_
  refine x_bipush 27 (-6 : Int32) dX9_put_27 (by decide) ?_
  obtain ⟨h11, H⟩ := x_ckp H
  obtain ⟨r13, M12, e14, H⟩ := x_bd_of H
  refine x_callV 29 100 9 [(.int (-6 : Int32))] [] dX9_put_29 (ct_X9_no l e14) lk_1165 lk_1167 lk_37 (by decide) h11 lk_94 lk_1168 ⟨cn_X9_no, (by decide), by decide⟩ rfl (Nat.le_of_ble_eq_true rfl) (Nat.le_of_ble_eq_true rfl) (Nat.le_of_ble_eq_true rfl) (x_ri ?_)
  cases H
  exact x_iret 32 dX9_put_32 .int rfl rfl (Nat.le_of_ble_eq_true rfl) (Nat.le_of_ble_eq_true rfl) ⟨rfl, rfl⟩

def f_X9_put_c2 (v0 : Nat) (v1 : Int32) (v2 : Int32) (s0 : Int32) (M : XM) : Option (Int32 × XM) :=
  if s0 = 0 then (if x_tag M v0 = 9 + 10 then (x_bd (f_X9_no v0 (-1 : Int32) M) (fun r8 M7 => some (r8, M7))) else none) else (if v2 < 0 then (f_X9_put_26 v0 M) else (if x_tag M v0 = 9 + 10 then (if v2 ≤ (x_i M v0 1) then (if x_at M (x_r M v0 12) 1 v1 = true then (x_lt (x_wi M (x_r M v0 12) v1.toNatClampNeg v2) (fun M18 => some ((x_i M (x_r M v0 12) v1.toNatClampNeg), M18))) else none) else (f_X9_put_26 v0 M)) else none))
set_option maxRecDepth 20000 in
set_option maxHeartbeats 4000000 in
theorem t_X9_put_c2 (l : Launch) {v0 : Nat} {v1 : Int32} {v2 : Int32} {s0 : Int32} {M : XM} {q : Int32 × XM} (H : f_X9_put_c2 v0 v1 v2 s0 M = some q) : AW l m_X9_put 2 0 0 (x_Ri q) 0 0 5 [some (.ref v0), some (.int v1), some (.int v2), none] [(.int s0)] M := by
  unfold f_X9_put_c2 at H
  refine x_if_ne 5 14 dX9_put_5 (by decide) (fun c5 => ?_) (fun c5 => ?_)
  · replace H := x_ifn c5 H
    refine x_iload_n 14 2 dX9_put_14 rfl rfl ?_
    refine x_if_lt 15 26 dX9_put_15 (by decide) (fun c10 => ?_) (fun c10 => ?_)
    · replace H := x_ifp c10 H
      exact x_wk (le_s (le_n (le_n (le_s le_0)))) (t_X9_put_26 l H)
    · replace H := x_ifn c10 H
      refine x_iload_n 18 2 dX9_put_18 rfl rfl ?_
      refine x_aload_n 19 0 dX9_put_19 rfl rfl ?_
      obtain ⟨h15, H⟩ := x_ckp H
      refine x_getf 20 7 9 1 (.int (x_i M v0 1)) dX9_put_20 lk_1031 (by decide) (by decide) rfl (fun _ => rfl) h15 ?_
      refine x_icmp_le 23 33 dX9_put_23 (by decide) (fun c16 => ?_) (fun c16 => ?_)
      · replace H := x_ifp c16 H
        refine x_aload_n 33 0 dX9_put_33 rfl rfl ?_
        refine x_getf 34 38 9 12 (.ref (x_r M v0 12)) dX9_put_34 lk_1042 (by decide) (by decide) rfl (fun _ => rfl) h15 ?_
        refine x_iload_n 37 1 dX9_put_37 rfl rfl ?_
        obtain ⟨h17, H⟩ := x_ckp H
        refine x_iald 38 dX9_put_38 h17 ?_
        refine x_istore_n 39 3 [some (.ref v0), some (.int v1), some (.int v2), some (.int (x_i M (x_r M v0 12) v1.toNatClampNeg))] dX9_put_39 rfl rfl (Nat.le_of_ble_eq_true rfl) rfl ?_
        refine x_aload_n 40 0 dX9_put_40 rfl rfl ?_
        refine x_getf 41 38 9 12 (.ref (x_r M v0 12)) dX9_put_41 lk_1042 (by decide) (by decide) rfl (fun _ => rfl) h15 ?_
        refine x_iload_n 44 1 dX9_put_44 rfl rfl ?_
        refine x_iload_n 45 2 dX9_put_45 rfl rfl ?_
        obtain ⟨M18, w19, H⟩ := x_lt_of H
        have h20 : x_tag M18 v0 = 9 + 10 := by rw [w19]; exact h15
        have h21 : x_at M18 (x_r M v0 12) 1 v1 = true := by rw [w19]; exact h17
        have h22 : x_tag M18 (x_r M v0 12) = 1 := by rw [w19]; exact (x_at_1 h17)
        refine x_iast' 46 dX9_put_46 h17 w19 ?_
        refine x_iload_n 47 3 dX9_put_47 rfl rfl ?_
        cases H
        exact x_iret 48 dX9_put_48 .int rfl rfl (Nat.le_of_ble_eq_true rfl) (Nat.le_of_ble_eq_true rfl) ⟨rfl, rfl⟩
      · replace H := x_ifn c16 H
        exact x_wk (le_s (le_n (le_n (le_s le_0)))) (t_X9_put_26 l H)
  · replace H := x_ifp c5 H
    refine x_aload_n 8 0 dX9_put_8 rfl rfl ?_
    refine x_iconst 9 (-1 : Int32) dX9_put_9 (by decide) ?_
    obtain ⟨h6, H⟩ := x_ckp H
    obtain ⟨r8, M7, e9, H⟩ := x_bd_of H
    refine x_callV 10 100 9 [(.int (-1 : Int32))] [] dX9_put_10 (ct_X9_no l e9) lk_1165 lk_1167 lk_37 (by decide) h6 lk_94 lk_1168 ⟨cn_X9_no, (by decide), by decide⟩ rfl (Nat.le_of_ble_eq_true rfl) (Nat.le_of_ble_eq_true rfl) (Nat.le_of_ble_eq_true rfl) (x_ri ?_)
    cases H
    exact x_iret 13 dX9_put_13 .int rfl rfl (Nat.le_of_ble_eq_true rfl) (Nat.le_of_ble_eq_true rfl) ⟨rfl, rfl⟩

def f_X9_put (v0 : Nat) (v1 : Int32) (v2 : Int32) (M : XM) : Option (Int32 × XM) :=
  if x_tag M v0 = 9 + 10 then (x_bd (f_X9_isCounter v0 v1 M) (f_X9_put_c2 v0 v1 v2)) else none
set_option maxRecDepth 20000 in
set_option maxHeartbeats 4000000 in
theorem t_X9_put (l : Launch) {v0 : Nat} {v1 : Int32} {v2 : Int32} {M : XM} {q : Int32 × XM} (H : f_X9_put v0 v1 v2 M = some q) : AW l m_X9_put 2 0 0 (x_Ri q) 0 0 0 [some (.ref v0), some (.int v1), some (.int v2), none] [] M := by
  unfold f_X9_put at H
  refine x_aload_n 0 0 dX9_put_0 rfl rfl ?_
  refine x_iload_n 1 1 dX9_put_1 rfl rfl ?_
  obtain ⟨h1, H⟩ := x_ckp H
  obtain ⟨r3, M2, e4, H⟩ := x_bd_of H
  refine x_callV 2 104 9 [(.int v1)] [] dX9_put_2 (ct_X9_isCounter l e4) lk_1185 lk_1187 lk_38 (by decide) h1 lk_94 lk_1188 ⟨cn_X9_isCounter, (by decide), by decide⟩ rfl (Nat.le_of_ble_eq_true rfl) (Nat.le_of_ble_eq_true rfl) (Nat.le_of_ble_eq_true rfl) (x_ri ?_)
  exact t_X9_put_c2 l H

theorem ct_X9_put (l : Launch) {v0 : Nat} {v1 : Int32} {v2 : Int32} {M : XM} {q : Int32 × XM} (H : f_X9_put v0 v1 v2 M = some q) : Ct l m_X9_put 2 0 0 [(.ref v0), (.int v1), (.int v2)] M (x_Ri q) := x_met l m_X9_put 2 0 0 [(.ref v0), (.int v1), (.int v2)] M (x_Ri q) _ rfl rfl (Nat.le_of_ble_eq_true rfl) (t_X9_put l H)
theorem lk_1058 : Cond.fieldLink RX9 125 RX9 "wrongAt" "I" ∈ x_TB := x_tb (k := 1058) (by decide +kernel) rfl
abbrev m_X9_wrong : XU := (yX9_wrong, cX9_wrong, 2, (some .boolean))
theorem cn_X9_wrong : m_X9_wrong.1.cls ≠ "java/lang/invoke/MethodHandle" ∧ m_X9_wrong.1.cls ≠ "java/lang/invoke/VarHandle" ∧ (parseMethodDescriptor m_X9_wrong.1.desc).map (fun q => q.parameters.length) = some 1 := by decide +kernel
def f_X9_wrong (v0 : Nat) (v1 : Int32) (M : XM) : Option (Int32 × XM) :=
  if x_tag M v0 = 9 + 10 then (x_lt (x_wi M v0 28 v1) (fun M2 => some ((0 : Int32), M2))) else none
set_option maxRecDepth 20000 in
set_option maxHeartbeats 4000000 in
theorem t_X9_wrong (l : Launch) {v0 : Nat} {v1 : Int32} {M : XM} {q : Int32 × XM} (H : f_X9_wrong v0 v1 M = some q) : AW l m_X9_wrong 1 0 0 (x_Ri q) 0 0 0 [some (.ref v0), some (.int v1)] [] M := by
  unfold f_X9_wrong at H
  refine x_aload_n 0 0 dX9_wrong_0 rfl rfl ?_
  refine x_iload_n 1 1 dX9_wrong_1 rfl rfl ?_
  obtain ⟨h1, H⟩ := x_ckp H
  obtain ⟨M2, w3, H⟩ := x_lt_of H
  have h4 : x_tag M2 v0 = 9 + 10 := by rw [w3]; exact h1
  refine x_putI' 2 125 9 28 dX9_wrong_2 lk_1058 (by decide) (by decide) rfl (Or.inl rfl) (Or.inl rfl) h1 w3 ?_
  refine x_iconst 5 (0 : Int32) dX9_wrong_5 (by decide) ?_
  cases H
  exact x_iret 6 dX9_wrong_6 .boolean rfl rfl (Nat.le_of_ble_eq_true rfl) (Nat.le_of_ble_eq_true rfl) ⟨rfl, rfl⟩

theorem ct_X9_wrong (l : Launch) {v0 : Nat} {v1 : Int32} {M : XM} {q : Int32 × XM} (H : f_X9_wrong v0 v1 M = some q) : Ct l m_X9_wrong 1 0 0 [(.ref v0), (.int v1)] M (x_Ri q) := x_met l m_X9_wrong 1 0 0 [(.ref v0), (.int v1)] M (x_Ri q) _ rfl rfl (Nat.le_of_ble_eq_true rfl) (t_X9_wrong l H)
theorem lk_1055 : Cond.fieldLink RX9 128 RX9 "from" "I" ∈ x_TB := x_tb (k := 1055) (by decide +kernel) rfl
theorem lk_1056 : Cond.fieldLink RX9 131 RX9 "end" "I" ∈ x_TB := x_tb (k := 1056) (by decide +kernel) rfl
theorem lk_1054 : Cond.fieldLink RX9 134 RX9 "base" "I" ∈ x_TB := x_tb (k := 1054) (by decide +kernel) rfl
abbrev m_X9_isWordAt : XU := (yX9_isWordAt, cX9_isWordAt, 4, (some .boolean))
theorem cn_X9_isWordAt : m_X9_isWordAt.1.cls ≠ "java/lang/invoke/MethodHandle" ∧ m_X9_isWordAt.1.cls ≠ "java/lang/invoke/VarHandle" ∧ (parseMethodDescriptor m_X9_isWordAt.1.desc).map (fun q => q.parameters.length) = some 1 := by decide +kernel
def f_X9_isWordAt_86 (v0 : Nat) (v2 : Int32) (M : XM) : Option (Int32 × XM) :=
  if x_tag M v0 = 9 + 10 then (if x_at M (x_r M v0 22) 1 v2 = true then (if (32 : Int32) < (x_i M (x_r M v0 22) v2.toNatClampNeg) then (some ((0 : Int32), M)) else (some ((1 : Int32), M))) else none) else none
set_option maxRecDepth 20000 in
set_option maxHeartbeats 4000000 in
theorem t_X9_isWordAt_86 (l : Launch) {v0 : Nat} {v2 : Int32} {M : XM} {q : Int32 × XM} (H : f_X9_isWordAt_86 v0 v2 M = some q) : AW l m_X9_isWordAt 1 0 0 (x_Ri q) 0 0 86 [some (.ref v0), none, some (.int v2), none] [] M := by
  unfold f_X9_isWordAt_86 at H
  refine x_aload_n 86 0 dX9_isWordAt_86 rfl rfl ?_
  obtain ⟨h6, H⟩ := x_ckp H
  refine x_getf 87 69 9 22 (.ref (x_r M v0 22)) dX9_isWordAt_87 lk_1052 (by decide) (by decide) rfl (fun _ => rfl) h6 ?_
  refine x_iload_n 90 2 dX9_isWordAt_90 rfl rfl ?_
  obtain ⟨h7, H⟩ := x_ckp H
  refine x_iald 91 dX9_isWordAt_91 h7 ?_
  refine x_bipush 92 (32 : Int32) dX9_isWordAt_92 (by decide) ?_
  refine x_icmp_gt 94 101 dX9_isWordAt_94 (by decide) (fun c8 => ?_) (fun c8 => ?_)
  · replace H := x_ifp c8 H
    refine x_iconst 101 (0 : Int32) dX9_isWordAt_101 (by decide) ?_
    cases H
    exact x_iret 102 dX9_isWordAt_102 .boolean rfl rfl (Nat.le_of_ble_eq_true rfl) (Nat.le_of_ble_eq_true rfl) ⟨rfl, rfl⟩
  · replace H := x_ifn c8 H
    refine x_iconst 97 (1 : Int32) dX9_isWordAt_97 (by decide) ?_
    refine x_goto 98 102 dX9_isWordAt_98 (by decide) ?_
    cases H
    exact x_iret 102 dX9_isWordAt_102 .boolean rfl rfl (Nat.le_of_ble_eq_true rfl) (Nat.le_of_ble_eq_true rfl) ⟨rfl, rfl⟩

def bd_X9_isWordAt_37 (κ37 : Nat → Int32 → Int32 → XM → Option (Int32 × XM)) (v0 : Nat) (v2 : Int32) (v3 : Int32) (M : XM) : Option (Int32 × XM) :=
  if x_tag M v0 = 9 + 10 then (if x_at M (x_r M v0 22) 1 v2 = true then (if (x_i M (x_r M v0 22) v2.toNatClampNeg) ≤ (32 : Int32) then (f_X9_isWordAt_86 v0 v2 M) else (if (x_i M v0 26) ≤ v3 then (f_X9_isWordAt_86 v0 v2 M) else (if x_at M (x_r M v0 20) 2 ((x_i M v0 24) + v3) = true then (if ((x_j M (x_r M v0 20) ((x_i M v0 24) + v3).toNatClampNeg).toInt32) = (x_i M (x_r M v0 22) v2.toNatClampNeg) then (κ37 v0 (v2 + (1 : Int32)) (v3 + (1 : Int32)) M) else (f_X9_isWordAt_86 v0 v2 M)) else none))) else none) else none
set_option maxRecDepth 20000 in
set_option maxHeartbeats 4000000 in
theorem tb_X9_isWordAt_37 (l : Launch) {κ37 : Nat → Int32 → Int32 → XM → Option (Int32 × XM)} {v0 : Nat} {v2 : Int32} {v3 : Int32} {M : XM} {q : Int32 × XM} (hκ37 : ∀ (v0 : Nat) (v2 : Int32) (v3 : Int32) (M : XM), κ37 v0 v2 v3 M = some q → AW l m_X9_isWordAt 1 0 0 (x_Ri q) 0 0 37 [some (.ref v0), none, some (.int v2), some (.int v3)] [] M) (H : bd_X9_isWordAt_37 κ37 v0 v2 v3 M = some q) : AW l m_X9_isWordAt 1 0 0 (x_Ri q) 0 0 37 [some (.ref v0), none, some (.int v2), some (.int v3)] [] M := by
  unfold bd_X9_isWordAt_37 at H
  refine x_aload_n 37 0 dX9_isWordAt_37 rfl rfl ?_
  obtain ⟨h3, H⟩ := x_ckp H
  refine x_getf 38 69 9 22 (.ref (x_r M v0 22)) dX9_isWordAt_38 lk_1052 (by decide) (by decide) rfl (fun _ => rfl) h3 ?_
  refine x_iload_n 41 2 dX9_isWordAt_41 rfl rfl ?_
  obtain ⟨h4, H⟩ := x_ckp H
  refine x_iald 42 dX9_isWordAt_42 h4 ?_
  refine x_bipush 43 (32 : Int32) dX9_isWordAt_43 (by decide) ?_
  refine x_icmp_le 45 86 dX9_isWordAt_45 (by decide) (fun c5 => ?_) (fun c5 => ?_)
  · replace H := x_ifp c5 H
    exact x_wk (le_s (le_s (le_s (le_n le_0)))) (t_X9_isWordAt_86 l H)
  · replace H := x_ifn c5 H
    refine x_iload_n 48 3 dX9_isWordAt_48 rfl rfl ?_
    refine x_aload_n 49 0 dX9_isWordAt_49 rfl rfl ?_
    refine x_getf 50 131 9 26 (.int (x_i M v0 26)) dX9_isWordAt_50 lk_1056 (by decide) (by decide) rfl (fun _ => rfl) h3 ?_
    refine x_icmp_ge 53 86 dX9_isWordAt_53 (by decide) (fun c9 => ?_) (fun c9 => ?_)
    · replace H := x_ifp c9 H
      exact x_wk (le_s (le_s (le_s (le_n le_0)))) (t_X9_isWordAt_86 l H)
    · replace H := x_ifn c9 H
      refine x_aload_n 56 0 dX9_isWordAt_56 rfl rfl ?_
      refine x_getf 57 62 9 20 (.ref (x_r M v0 20)) dX9_isWordAt_57 lk_1050 (by decide) (by decide) rfl (fun _ => rfl) h3 ?_
      refine x_aload_n 60 0 dX9_isWordAt_60 rfl rfl ?_
      refine x_getf 61 134 9 24 (.int (x_i M v0 24)) dX9_isWordAt_61 lk_1054 (by decide) (by decide) rfl (fun _ => rfl) h3 ?_
      refine x_iload_n 64 3 dX9_isWordAt_64 rfl rfl ?_
      refine x_iadd 65 dX9_isWordAt_65 ?_
      obtain ⟨h10, H⟩ := x_ckp H
      refine x_lald 66 dX9_isWordAt_66 h10 ?_
      refine x_l2i 67 dX9_isWordAt_67 ?_
      refine x_aload_n 68 0 dX9_isWordAt_68 rfl rfl ?_
      refine x_getf 69 69 9 22 (.ref (x_r M v0 22)) dX9_isWordAt_69 lk_1052 (by decide) (by decide) rfl (fun _ => rfl) h3 ?_
      refine x_iload_n 72 2 dX9_isWordAt_72 rfl rfl ?_
      refine x_iald 73 dX9_isWordAt_73 h4 ?_
      refine x_icmp_ne 74 86 dX9_isWordAt_74 (by decide) (fun c11 => ?_) (fun c11 => ?_)
      · replace H := x_ifn c11 H
        exact x_wk (le_s (le_s (le_s (le_n le_0)))) (t_X9_isWordAt_86 l H)
      · replace H := x_ifp c11 H
        refine x_iinc 77 3 (v3 + (1 : Int32)) [some (.ref v0), none, some (.int v2), some (.int (v3 + (1 : Int32)))] dX9_isWordAt_77 rfl (congrArg (fun z : Int32 => v3 + z) (show Int32.ofInt (1) = (1 : Int32) by decide)) rfl (Nat.le_of_ble_eq_true rfl) rfl ?_
        refine x_iinc 80 2 (v2 + (1 : Int32)) [some (.ref v0), none, some (.int (v2 + (1 : Int32))), some (.int (v3 + (1 : Int32)))] dX9_isWordAt_80 rfl (congrArg (fun z : Int32 => v2 + z) (show Int32.ofInt (1) = (1 : Int32) by decide)) rfl (Nat.le_of_ble_eq_true rfl) rfl ?_
        refine x_goto 83 37 dX9_isWordAt_83 (by decide) ?_
        exact hκ37 _ _ _ _ H

def lp_X9_isWordAt_37 (n : Nat) : Nat → Int32 → Int32 → XM → Option (Int32 × XM) := x_rec (fun _ _ _ _ => none) (bd_X9_isWordAt_37) n
theorem t_X9_isWordAt_37 (l : Launch) {q : Int32 × XM} : ∀ (n : Nat) (v0 : Nat) (v2 : Int32) (v3 : Int32) (M : XM), lp_X9_isWordAt_37 n v0 v2 v3 M = some q → AW l m_X9_isWordAt 1 0 0 (x_Ri q) 0 0 37 [some (.ref v0), none, some (.int v2), some (.int v3)] [] M := by
  intro n
  induction n with
  | zero => intro v0 v2 v3 M H; cases H
  | succ n ih => intro v0 v2 v3 M H; exact tb_X9_isWordAt_37 l ih H
def f_X9_isWordAt_24 (κ4 : Nat → Int32 → Int32 → Int32 → XM → Option (Int32 × XM)) (v0 : Nat) (v1 : Int32) (v2 : Int32) (s0 : Int32) (s1 : Int32) (M : XM) : Option (Int32 × XM) :=
  κ4 v0 v1 (v2 + (1 : Int32)) (s1 + s0) M
set_option maxRecDepth 20000 in
set_option maxHeartbeats 4000000 in
theorem t_X9_isWordAt_24 (l : Launch) {κ4 : Nat → Int32 → Int32 → Int32 → XM → Option (Int32 × XM)} {v0 : Nat} {v1 : Int32} {v2 : Int32} {s0 : Int32} {s1 : Int32} {M : XM} {q : Int32 × XM} (hκ4 : ∀ (v0 : Nat) (v1 : Int32) (v2 : Int32) (v3 : Int32) (M : XM), κ4 v0 v1 v2 v3 M = some q → AW l m_X9_isWordAt 1 0 0 (x_Ri q) 0 0 4 [some (.ref v0), some (.int v1), some (.int v2), some (.int v3)] [] M) (H : f_X9_isWordAt_24 κ4 v0 v1 v2 s0 s1 M = some q) : AW l m_X9_isWordAt 1 0 0 (x_Ri q) 0 0 24 [some (.ref v0), some (.int v1), some (.int v2), none] [(.int s0), (.int s1)] M := by
  unfold f_X9_isWordAt_24 at H
  refine x_iadd 24 dX9_isWordAt_24 ?_
  refine x_istore_n 25 3 [some (.ref v0), some (.int v1), some (.int v2), some (.int (s1 + s0))] dX9_isWordAt_25 rfl rfl (Nat.le_of_ble_eq_true rfl) rfl ?_
  refine x_iinc 26 2 (v2 + (1 : Int32)) [some (.ref v0), some (.int v1), some (.int (v2 + (1 : Int32))), some (.int (s1 + s0))] dX9_isWordAt_26 rfl (congrArg (fun z : Int32 => v2 + z) (show Int32.ofInt (1) = (1 : Int32) by decide)) rfl (Nat.le_of_ble_eq_true rfl) rfl ?_
  refine x_goto 29 4 dX9_isWordAt_29 (by decide) ?_
  exact hκ4 _ _ _ _ _ H

def bd_X9_isWordAt_4 (κ4 : Nat → Int32 → Int32 → Int32 → XM → Option (Int32 × XM)) (v0 : Nat) (v1 : Int32) (v2 : Int32) (v3 : Int32) (M : XM) : Option (Int32 × XM) :=
  if v1 ≤ v3 then (if x_tag M v0 = 9 + 10 then (lp_X9_isWordAt_37 x_fuel v0 v2 (x_i M v0 25) M) else none) else (if x_tag M v0 = 9 + 10 then (if x_at M (x_r M v0 22) 1 v2 = true then (if (x_i M (x_r M v0 22) v2.toNatClampNeg) = 0 then (f_X9_isWordAt_24 κ4 v0 v1 v2 (1 : Int32) v3 M) else (f_X9_isWordAt_24 κ4 v0 v1 v2 (0 : Int32) v3 M)) else none) else none)
set_option maxRecDepth 20000 in
set_option maxHeartbeats 4000000 in
theorem tb_X9_isWordAt_4 (l : Launch) {κ4 : Nat → Int32 → Int32 → Int32 → XM → Option (Int32 × XM)} {v0 : Nat} {v1 : Int32} {v2 : Int32} {v3 : Int32} {M : XM} {q : Int32 × XM} (hκ4 : ∀ (v0 : Nat) (v1 : Int32) (v2 : Int32) (v3 : Int32) (M : XM), κ4 v0 v1 v2 v3 M = some q → AW l m_X9_isWordAt 1 0 0 (x_Ri q) 0 0 4 [some (.ref v0), some (.int v1), some (.int v2), some (.int v3)] [] M) (H : bd_X9_isWordAt_4 κ4 v0 v1 v2 v3 M = some q) : AW l m_X9_isWordAt 1 0 0 (x_Ri q) 0 0 4 [some (.ref v0), some (.int v1), some (.int v2), some (.int v3)] [] M := by
  unfold bd_X9_isWordAt_4 at H
  refine x_iload_n 4 3 dX9_isWordAt_4 rfl rfl ?_
  refine x_iload_n 5 1 dX9_isWordAt_5 rfl rfl ?_
  refine x_icmp_ge 6 32 dX9_isWordAt_6 (by decide) (fun c1 => ?_) (fun c1 => ?_)
  · replace H := x_ifp c1 H
    refine x_aload_n 32 0 dX9_isWordAt_32 rfl rfl ?_
    obtain ⟨h2, H⟩ := x_ckp H
    refine x_getf 33 128 9 25 (.int (x_i M v0 25)) dX9_isWordAt_33 lk_1055 (by decide) (by decide) rfl (fun _ => rfl) h2 ?_
    refine x_istore_n 36 3 [some (.ref v0), some (.int v1), some (.int v2), some (.int (x_i M v0 25))] dX9_isWordAt_36 rfl rfl (Nat.le_of_ble_eq_true rfl) rfl ?_
    exact x_wk (le_s (le_n (le_s (le_s le_0)))) (t_X9_isWordAt_37 l _ _ _ _ _ H)
  · replace H := x_ifn c1 H
    refine x_iload_n 9 3 dX9_isWordAt_9 rfl rfl ?_
    refine x_aload_n 10 0 dX9_isWordAt_10 rfl rfl ?_
    obtain ⟨h12, H⟩ := x_ckp H
    refine x_getf 11 69 9 22 (.ref (x_r M v0 22)) dX9_isWordAt_11 lk_1052 (by decide) (by decide) rfl (fun _ => rfl) h12 ?_
    refine x_iload_n 14 2 dX9_isWordAt_14 rfl rfl ?_
    obtain ⟨h13, H⟩ := x_ckp H
    refine x_iald 15 dX9_isWordAt_15 h13 ?_
    refine x_if_ne 16 23 dX9_isWordAt_16 (by decide) (fun c14 => ?_) (fun c14 => ?_)
    · replace H := x_ifn c14 H
      refine x_iconst 23 (0 : Int32) dX9_isWordAt_23 (by decide) ?_
      exact x_wk (le_s (le_s (le_s (le_n le_0)))) (t_X9_isWordAt_24 l hκ4 H)
    · replace H := x_ifp c14 H
      refine x_iconst 19 (1 : Int32) dX9_isWordAt_19 (by decide) ?_
      refine x_goto 20 24 dX9_isWordAt_20 (by decide) ?_
      exact x_wk (le_s (le_s (le_s (le_n le_0)))) (t_X9_isWordAt_24 l hκ4 H)

def lp_X9_isWordAt_4 (n : Nat) : Nat → Int32 → Int32 → Int32 → XM → Option (Int32 × XM) := x_rec (fun _ _ _ _ _ => none) (bd_X9_isWordAt_4) n
theorem t_X9_isWordAt_4 (l : Launch) {q : Int32 × XM} : ∀ (n : Nat) (v0 : Nat) (v1 : Int32) (v2 : Int32) (v3 : Int32) (M : XM), lp_X9_isWordAt_4 n v0 v1 v2 v3 M = some q → AW l m_X9_isWordAt 1 0 0 (x_Ri q) 0 0 4 [some (.ref v0), some (.int v1), some (.int v2), some (.int v3)] [] M := by
  intro n
  induction n with
  | zero => intro v0 v1 v2 v3 M H; cases H
  | succ n ih => intro v0 v1 v2 v3 M H; exact tb_X9_isWordAt_4 l ih H
def f_X9_isWordAt (v0 : Nat) (v1 : Int32) (M : XM) : Option (Int32 × XM) :=
  lp_X9_isWordAt_4 x_fuel v0 v1 (0 : Int32) (0 : Int32) M
set_option maxRecDepth 20000 in
set_option maxHeartbeats 4000000 in
theorem t_X9_isWordAt (l : Launch) {v0 : Nat} {v1 : Int32} {M : XM} {q : Int32 × XM} (H : f_X9_isWordAt v0 v1 M = some q) : AW l m_X9_isWordAt 1 0 0 (x_Ri q) 0 0 0 [some (.ref v0), some (.int v1), none, none] [] M := by
  unfold f_X9_isWordAt at H
  refine x_iconst 0 (0 : Int32) dX9_isWordAt_0 (by decide) ?_
  refine x_istore_n 1 2 [some (.ref v0), some (.int v1), some (.int (0 : Int32)), none] dX9_isWordAt_1 rfl rfl (Nat.le_of_ble_eq_true rfl) rfl ?_
  refine x_iconst 2 (0 : Int32) dX9_isWordAt_2 (by decide) ?_
  refine x_istore_n 3 3 [some (.ref v0), some (.int v1), some (.int (0 : Int32)), some (.int (0 : Int32))] dX9_isWordAt_3 rfl rfl (Nat.le_of_ble_eq_true rfl) rfl ?_
  exact t_X9_isWordAt_4 l _ _ _ _ _ _ H

theorem ct_X9_isWordAt (l : Launch) {v0 : Nat} {v1 : Int32} {M : XM} {q : Int32 × XM} (H : f_X9_isWordAt v0 v1 M = some q) : Ct l m_X9_isWordAt 1 0 0 [(.ref v0), (.int v1)] M (x_Ri q) := x_met l m_X9_isWordAt 1 0 0 [(.ref v0), (.int v1)] M (x_Ri q) _ rfl rfl (Nat.le_of_ble_eq_true rfl) (t_X9_isWordAt l H)
abbrev m_X9_word : XU := (yX9_word, cX9_word, 6, (some .int))
theorem cn_X9_word : m_X9_word.1.cls ≠ "java/lang/invoke/MethodHandle" ∧ m_X9_word.1.cls ≠ "java/lang/invoke/VarHandle" ∧ (parseMethodDescriptor m_X9_word.1.desc).map (fun q => q.parameters.length) = some 0 := by decide +kernel
def bd_X9_word_106 (κ9 : Nat → Int32 → Int32 → Int32 → XM → Option (Int32 × XM)) (κ106 : Nat → Int32 → Int32 → Int32 → XM → Option (Int32 × XM)) (v0 : Nat) (v1 : Int32) (v2 : Int32) (v3 : Int32) (M : XM) : Option (Int32 × XM) :=
  if x_tag M v0 = 9 + 10 then (if x_at M (x_r M v0 22) 1 v1 = true then (if (x_i M (x_r M v0 22) v1.toNatClampNeg) = 0 then (κ9 v0 (v1 + (1 : Int32)) v2 (v3 + (1 : Int32)) M) else (κ106 v0 (v1 + (1 : Int32)) v2 v3 M)) else none) else none
set_option maxRecDepth 20000 in
set_option maxHeartbeats 4000000 in
theorem tb_X9_word_106 (l : Launch) {κ9 : Nat → Int32 → Int32 → Int32 → XM → Option (Int32 × XM)} {κ106 : Nat → Int32 → Int32 → Int32 → XM → Option (Int32 × XM)} {v0 : Nat} {v1 : Int32} {v2 : Int32} {v3 : Int32} {M : XM} {q : Int32 × XM} (hκ9 : ∀ (v0 : Nat) (v1 : Int32) (v2 : Int32) (v3 : Int32) (M : XM), κ9 v0 v1 v2 v3 M = some q → AW l m_X9_word 1 0 0 (x_Ri q) 0 0 9 [some (.ref v0), some (.int v1), some (.int v2), some (.int v3), none, none] [] M) (hκ106 : ∀ (v0 : Nat) (v1 : Int32) (v2 : Int32) (v3 : Int32) (M : XM), κ106 v0 v1 v2 v3 M = some q → AW l m_X9_word 1 0 0 (x_Ri q) 0 0 106 [some (.ref v0), some (.int v1), some (.int v2), some (.int v3), none, none] [] M) (H : bd_X9_word_106 κ9 κ106 v0 v1 v2 v3 M = some q) : AW l m_X9_word 1 0 0 (x_Ri q) 0 0 106 [some (.ref v0), some (.int v1), some (.int v2), some (.int v3), none, none] [] M := by
  unfold bd_X9_word_106 at H
  refine x_aload_n 106 0 dX9_word_106 rfl rfl ?_
  obtain ⟨h20, H⟩ := x_ckp H
  refine x_getf 107 69 9 22 (.ref (x_r M v0 22)) dX9_word_107 lk_1052 (by decide) (by decide) rfl (fun _ => rfl) h20 ?_
  refine x_iload_n 110 1 dX9_word_110 rfl rfl ?_
  obtain ⟨h21, H⟩ := x_ckp H
  refine x_iald 111 dX9_word_111 h21 ?_
  refine x_if_eq 112 121 dX9_word_112 (by decide) (fun c22 => ?_) (fun c22 => ?_)
  · replace H := x_ifp c22 H
    refine x_iinc 121 1 (v1 + (1 : Int32)) [some (.ref v0), some (.int (v1 + (1 : Int32))), some (.int v2), some (.int v3), none, none] dX9_word_121 rfl (congrArg (fun z : Int32 => v1 + z) (show Int32.ofInt (1) = (1 : Int32) by decide)) rfl (Nat.le_of_ble_eq_true rfl) rfl ?_
    refine x_iinc 124 3 (v3 + (1 : Int32)) [some (.ref v0), some (.int (v1 + (1 : Int32))), some (.int v2), some (.int (v3 + (1 : Int32))), none, none] dX9_word_124 rfl (congrArg (fun z : Int32 => v3 + z) (show Int32.ofInt (1) = (1 : Int32) by decide)) rfl (Nat.le_of_ble_eq_true rfl) rfl ?_
    refine x_goto 127 9 dX9_word_127 (by decide) ?_
    exact hκ9 _ _ _ _ _ H
  · replace H := x_ifn c22 H
    refine x_iinc 115 1 (v1 + (1 : Int32)) [some (.ref v0), some (.int (v1 + (1 : Int32))), some (.int v2), some (.int v3), none, none] dX9_word_115 rfl (congrArg (fun z : Int32 => v1 + z) (show Int32.ofInt (1) = (1 : Int32) by decide)) rfl (Nat.le_of_ble_eq_true rfl) rfl ?_
    refine x_goto 118 106 dX9_word_118 (by decide) ?_
    exact hκ106 _ _ _ _ _ H

def lp_X9_word_106 (κ9 : Nat → Int32 → Int32 → Int32 → XM → Option (Int32 × XM)) (n : Nat) : Nat → Int32 → Int32 → Int32 → XM → Option (Int32 × XM) := x_rec (fun _ _ _ _ _ => none) (bd_X9_word_106 κ9) n
theorem t_X9_word_106 (l : Launch) {κ9 : Nat → Int32 → Int32 → Int32 → XM → Option (Int32 × XM)} {q : Int32 × XM} (hκ9 : ∀ (v0 : Nat) (v1 : Int32) (v2 : Int32) (v3 : Int32) (M : XM), κ9 v0 v1 v2 v3 M = some q → AW l m_X9_word 1 0 0 (x_Ri q) 0 0 9 [some (.ref v0), some (.int v1), some (.int v2), some (.int v3), none, none] [] M) : ∀ (n : Nat) (v0 : Nat) (v1 : Int32) (v2 : Int32) (v3 : Int32) (M : XM), lp_X9_word_106 κ9 n v0 v1 v2 v3 M = some q → AW l m_X9_word 1 0 0 (x_Ri q) 0 0 106 [some (.ref v0), some (.int v1), some (.int v2), some (.int v3), none, none] [] M := by
  intro n
  induction n with
  | zero => intro v0 v1 v2 v3 M H; cases H
  | succ n ih => intro v0 v1 v2 v3 M H; exact tb_X9_word_106 l hκ9 ih H
def f_X9_word_105 (κ9 : Nat → Int32 → Int32 → Int32 → XM → Option (Int32 × XM)) (v0 : Nat) (v1 : Int32) (v3 : Int32) (s0 : Int32) (M : XM) : Option (Int32 × XM) :=
  lp_X9_word_106 κ9 x_fuel v0 v1 s0 v3 M
set_option maxRecDepth 20000 in
set_option maxHeartbeats 4000000 in
theorem t_X9_word_105 (l : Launch) {κ9 : Nat → Int32 → Int32 → Int32 → XM → Option (Int32 × XM)} {v0 : Nat} {v1 : Int32} {v3 : Int32} {s0 : Int32} {M : XM} {q : Int32 × XM} (hκ9 : ∀ (v0 : Nat) (v1 : Int32) (v2 : Int32) (v3 : Int32) (M : XM), κ9 v0 v1 v2 v3 M = some q → AW l m_X9_word 1 0 0 (x_Ri q) 0 0 9 [some (.ref v0), some (.int v1), some (.int v2), some (.int v3), none, none] [] M) (H : f_X9_word_105 κ9 v0 v1 v3 s0 M = some q) : AW l m_X9_word 1 0 0 (x_Ri q) 0 0 105 [some (.ref v0), some (.int v1), none, some (.int v3), none, none] [(.int s0)] M := by
  unfold f_X9_word_105 at H
  refine x_istore_n 105 2 [some (.ref v0), some (.int v1), some (.int s0), some (.int v3), none, none] dX9_word_105 rfl rfl (Nat.le_of_ble_eq_true rfl) rfl ?_
  exact t_X9_word_106 l hκ9 _ _ _ _ _ _ H

def f_X9_word_75 (κ9 : Nat → Int32 → Int32 → Int32 → XM → Option (Int32 × XM)) (v0 : Nat) (v1 : Int32) (v2 : Int32) (v3 : Int32) (v4 : Int32) (v5 : Int32) (M : XM) : Option (Int32 × XM) :=
  if x_tag M v0 = 9 + 10 then (if x_at M (x_r M v0 22) 1 v5 = true then (if (x_i M (x_r M v0 22) v5.toNatClampNeg) = 0 then (x_lt (x_wi M v0 25 v4) (fun M14 => some (v3, M14))) else (if v4 ≤ v2 then (f_X9_word_105 κ9 v0 v1 v3 v2 M) else (f_X9_word_105 κ9 v0 v1 v3 v4 M))) else none) else none
set_option maxRecDepth 20000 in
set_option maxHeartbeats 4000000 in
theorem t_X9_word_75 (l : Launch) {κ9 : Nat → Int32 → Int32 → Int32 → XM → Option (Int32 × XM)} {v0 : Nat} {v1 : Int32} {v2 : Int32} {v3 : Int32} {v4 : Int32} {v5 : Int32} {M : XM} {q : Int32 × XM} (hκ9 : ∀ (v0 : Nat) (v1 : Int32) (v2 : Int32) (v3 : Int32) (M : XM), κ9 v0 v1 v2 v3 M = some q → AW l m_X9_word 1 0 0 (x_Ri q) 0 0 9 [some (.ref v0), some (.int v1), some (.int v2), some (.int v3), none, none] [] M) (H : f_X9_word_75 κ9 v0 v1 v2 v3 v4 v5 M = some q) : AW l m_X9_word 1 0 0 (x_Ri q) 0 0 75 [some (.ref v0), some (.int v1), some (.int v2), some (.int v3), some (.int v4), some (.int v5)] [] M := by
  unfold f_X9_word_75 at H
  refine x_aload_n 75 0 dX9_word_75 rfl rfl ?_
  obtain ⟨h11, H⟩ := x_ckp H
  refine x_getf 76 69 9 22 (.ref (x_r M v0 22)) dX9_word_76 lk_1052 (by decide) (by decide) rfl (fun _ => rfl) h11 ?_
  refine x_iload 79 5 dX9_word_79 rfl ?_
  obtain ⟨h12, H⟩ := x_ckp H
  refine x_iald 81 dX9_word_81 h12 ?_
  refine x_if_ne 82 93 dX9_word_82 (by decide) (fun c13 => ?_) (fun c13 => ?_)
  · replace H := x_ifn c13 H
    refine x_iload 93 4 dX9_word_93 rfl ?_
    refine x_iload_n 95 2 dX9_word_95 rfl rfl ?_
    refine x_icmp_le 96 104 dX9_word_96 (by decide) (fun c19 => ?_) (fun c19 => ?_)
    · replace H := x_ifp c19 H
      refine x_iload_n 104 2 dX9_word_104 rfl rfl ?_
      exact x_wk (le_s (le_s (le_n (le_s (le_n (le_n le_0)))))) (t_X9_word_105 l hκ9 H)
    · replace H := x_ifn c19 H
      refine x_iload 99 4 dX9_word_99 rfl ?_
      refine x_goto 101 105 dX9_word_101 (by decide) ?_
      exact x_wk (le_s (le_s (le_n (le_s (le_n (le_n le_0)))))) (t_X9_word_105 l hκ9 H)
  · replace H := x_ifp c13 H
    refine x_aload_n 85 0 dX9_word_85 rfl rfl ?_
    refine x_iload 86 4 dX9_word_86 rfl ?_
    obtain ⟨M14, w15, H⟩ := x_lt_of H
    have h16 : x_tag M14 v0 = 9 + 10 := by rw [w15]; exact h11
    have h17 : x_at M14 (x_r M v0 22) 1 v5 = true := by rw [w15]; exact h12
    have h18 : x_tag M14 (x_r M v0 22) = 1 := by rw [w15]; exact (x_at_1 h12)
    refine x_putI' 88 128 9 25 dX9_word_88 lk_1055 (by decide) (by decide) rfl (Or.inl rfl) (Or.inl rfl) h11 w15 ?_
    refine x_iload_n 91 3 dX9_word_91 rfl rfl ?_
    cases H
    exact x_iret 92 dX9_word_92 .int rfl rfl (Nat.le_of_ble_eq_true rfl) (Nat.le_of_ble_eq_true rfl) ⟨rfl, rfl⟩

def bd_X9_word_24 (κ9 : Nat → Int32 → Int32 → Int32 → XM → Option (Int32 × XM)) (κ24 : Nat → Int32 → Int32 → Int32 → Int32 → Int32 → XM → Option (Int32 × XM)) (v0 : Nat) (v1 : Int32) (v2 : Int32) (v3 : Int32) (v4 : Int32) (v5 : Int32) (M : XM) : Option (Int32 × XM) :=
  if x_tag M v0 = 9 + 10 then (if x_at M (x_r M v0 22) 1 v5 = true then (if (x_i M (x_r M v0 22) v5.toNatClampNeg) = 0 then (f_X9_word_75 κ9 v0 v1 v2 v3 v4 v5 M) else (if (x_i M v0 26) ≤ v4 then (f_X9_word_75 κ9 v0 v1 v2 v3 v4 v5 M) else (if x_at M (x_r M v0 20) 2 ((x_i M v0 24) + v4) = true then (if ((x_j M (x_r M v0 20) ((x_i M v0 24) + v4).toNatClampNeg).toInt32) = (x_i M (x_r M v0 22) v5.toNatClampNeg) then (κ24 v0 v1 v2 v3 (v4 + (1 : Int32)) (v5 + (1 : Int32)) M) else (f_X9_word_75 κ9 v0 v1 v2 v3 v4 v5 M)) else none))) else none) else none
set_option maxRecDepth 20000 in
set_option maxHeartbeats 4000000 in
theorem tb_X9_word_24 (l : Launch) {κ9 : Nat → Int32 → Int32 → Int32 → XM → Option (Int32 × XM)} {κ24 : Nat → Int32 → Int32 → Int32 → Int32 → Int32 → XM → Option (Int32 × XM)} {v0 : Nat} {v1 : Int32} {v2 : Int32} {v3 : Int32} {v4 : Int32} {v5 : Int32} {M : XM} {q : Int32 × XM} (hκ9 : ∀ (v0 : Nat) (v1 : Int32) (v2 : Int32) (v3 : Int32) (M : XM), κ9 v0 v1 v2 v3 M = some q → AW l m_X9_word 1 0 0 (x_Ri q) 0 0 9 [some (.ref v0), some (.int v1), some (.int v2), some (.int v3), none, none] [] M) (hκ24 : ∀ (v0 : Nat) (v1 : Int32) (v2 : Int32) (v3 : Int32) (v4 : Int32) (v5 : Int32) (M : XM), κ24 v0 v1 v2 v3 v4 v5 M = some q → AW l m_X9_word 1 0 0 (x_Ri q) 0 0 24 [some (.ref v0), some (.int v1), some (.int v2), some (.int v3), some (.int v4), some (.int v5)] [] M) (H : bd_X9_word_24 κ9 κ24 v0 v1 v2 v3 v4 v5 M = some q) : AW l m_X9_word 1 0 0 (x_Ri q) 0 0 24 [some (.ref v0), some (.int v1), some (.int v2), some (.int v3), some (.int v4), some (.int v5)] [] M := by
  unfold bd_X9_word_24 at H
  refine x_aload_n 24 0 dX9_word_24 rfl rfl ?_
  obtain ⟨h8, H⟩ := x_ckp H
  refine x_getf 25 69 9 22 (.ref (x_r M v0 22)) dX9_word_25 lk_1052 (by decide) (by decide) rfl (fun _ => rfl) h8 ?_
  refine x_iload 28 5 dX9_word_28 rfl ?_
  obtain ⟨h9, H⟩ := x_ckp H
  refine x_iald 30 dX9_word_30 h9 ?_
  refine x_if_eq 31 75 dX9_word_31 (by decide) (fun c10 => ?_) (fun c10 => ?_)
  · replace H := x_ifp c10 H
    exact t_X9_word_75 l hκ9 H
  · replace H := x_ifn c10 H
    refine x_iload 34 4 dX9_word_34 rfl ?_
    refine x_aload_n 36 0 dX9_word_36 rfl rfl ?_
    refine x_getf 37 131 9 26 (.int (x_i M v0 26)) dX9_word_37 lk_1056 (by decide) (by decide) rfl (fun _ => rfl) h8 ?_
    refine x_icmp_ge 40 75 dX9_word_40 (by decide) (fun c23 => ?_) (fun c23 => ?_)
    · replace H := x_ifp c23 H
      exact t_X9_word_75 l hκ9 H
    · replace H := x_ifn c23 H
      refine x_aload_n 43 0 dX9_word_43 rfl rfl ?_
      refine x_getf 44 62 9 20 (.ref (x_r M v0 20)) dX9_word_44 lk_1050 (by decide) (by decide) rfl (fun _ => rfl) h8 ?_
      refine x_aload_n 47 0 dX9_word_47 rfl rfl ?_
      refine x_getf 48 134 9 24 (.int (x_i M v0 24)) dX9_word_48 lk_1054 (by decide) (by decide) rfl (fun _ => rfl) h8 ?_
      refine x_iload 51 4 dX9_word_51 rfl ?_
      refine x_iadd 53 dX9_word_53 ?_
      obtain ⟨h24, H⟩ := x_ckp H
      refine x_lald 54 dX9_word_54 h24 ?_
      refine x_l2i 55 dX9_word_55 ?_
      refine x_aload_n 56 0 dX9_word_56 rfl rfl ?_
      refine x_getf 57 69 9 22 (.ref (x_r M v0 22)) dX9_word_57 lk_1052 (by decide) (by decide) rfl (fun _ => rfl) h8 ?_
      refine x_iload 60 5 dX9_word_60 rfl ?_
      refine x_iald 62 dX9_word_62 h9 ?_
      refine x_icmp_ne 63 75 dX9_word_63 (by decide) (fun c25 => ?_) (fun c25 => ?_)
      · replace H := x_ifn c25 H
        exact t_X9_word_75 l hκ9 H
      · replace H := x_ifp c25 H
        refine x_iinc 66 4 (v4 + (1 : Int32)) [some (.ref v0), some (.int v1), some (.int v2), some (.int v3), some (.int (v4 + (1 : Int32))), some (.int v5)] dX9_word_66 rfl (congrArg (fun z : Int32 => v4 + z) (show Int32.ofInt (1) = (1 : Int32) by decide)) rfl (Nat.le_of_ble_eq_true rfl) rfl ?_
        refine x_iinc 69 5 (v5 + (1 : Int32)) [some (.ref v0), some (.int v1), some (.int v2), some (.int v3), some (.int (v4 + (1 : Int32))), some (.int (v5 + (1 : Int32)))] dX9_word_69 rfl (congrArg (fun z : Int32 => v5 + z) (show Int32.ofInt (1) = (1 : Int32) by decide)) rfl (Nat.le_of_ble_eq_true rfl) rfl ?_
        refine x_goto 72 24 dX9_word_72 (by decide) ?_
        exact hκ24 _ _ _ _ _ _ _ H

def lp_X9_word_24 (κ9 : Nat → Int32 → Int32 → Int32 → XM → Option (Int32 × XM)) (n : Nat) : Nat → Int32 → Int32 → Int32 → Int32 → Int32 → XM → Option (Int32 × XM) := x_rec (fun _ _ _ _ _ _ _ => none) (bd_X9_word_24 κ9) n
theorem t_X9_word_24 (l : Launch) {κ9 : Nat → Int32 → Int32 → Int32 → XM → Option (Int32 × XM)} {q : Int32 × XM} (hκ9 : ∀ (v0 : Nat) (v1 : Int32) (v2 : Int32) (v3 : Int32) (M : XM), κ9 v0 v1 v2 v3 M = some q → AW l m_X9_word 1 0 0 (x_Ri q) 0 0 9 [some (.ref v0), some (.int v1), some (.int v2), some (.int v3), none, none] [] M) : ∀ (n : Nat) (v0 : Nat) (v1 : Int32) (v2 : Int32) (v3 : Int32) (v4 : Int32) (v5 : Int32) (M : XM), lp_X9_word_24 κ9 n v0 v1 v2 v3 v4 v5 M = some q → AW l m_X9_word 1 0 0 (x_Ri q) 0 0 24 [some (.ref v0), some (.int v1), some (.int v2), some (.int v3), some (.int v4), some (.int v5)] [] M := by
  intro n
  induction n with
  | zero => intro v0 v1 v2 v3 v4 v5 M H; cases H
  | succ n ih => intro v0 v1 v2 v3 v4 v5 M H; exact tb_X9_word_24 l hκ9 ih H
def bd_X9_word_9 (κ9 : Nat → Int32 → Int32 → Int32 → XM → Option (Int32 × XM)) (v0 : Nat) (v1 : Int32) (v2 : Int32) (v3 : Int32) (M : XM) : Option (Int32 × XM) :=
  if (7 : Int32) ≤ v3 then (if x_tag M v0 = 9 + 10 then (x_lt (x_wi M v0 28 v2) (fun M4 => some ((-1 : Int32), M4))) else none) else (if x_tag M v0 = 9 + 10 then (lp_X9_word_24 κ9 x_fuel v0 v1 v2 v3 (x_i M v0 25) v1 M) else none)
set_option maxRecDepth 20000 in
set_option maxHeartbeats 4000000 in
theorem tb_X9_word_9 (l : Launch) {κ9 : Nat → Int32 → Int32 → Int32 → XM → Option (Int32 × XM)} {v0 : Nat} {v1 : Int32} {v2 : Int32} {v3 : Int32} {M : XM} {q : Int32 × XM} (hκ9 : ∀ (v0 : Nat) (v1 : Int32) (v2 : Int32) (v3 : Int32) (M : XM), κ9 v0 v1 v2 v3 M = some q → AW l m_X9_word 1 0 0 (x_Ri q) 0 0 9 [some (.ref v0), some (.int v1), some (.int v2), some (.int v3), none, none] [] M) (H : bd_X9_word_9 κ9 v0 v1 v2 v3 M = some q) : AW l m_X9_word 1 0 0 (x_Ri q) 0 0 9 [some (.ref v0), some (.int v1), some (.int v2), some (.int v3), none, none] [] M := by
  unfold bd_X9_word_9 at H
  refine x_iload_n 9 3 dX9_word_9 rfl rfl ?_
  refine x_bipush 10 (7 : Int32) dX9_word_10 (by decide) ?_
  refine x_icmp_ge 12 130 dX9_word_12 (by decide) (fun c2 => ?_) (fun c2 => ?_)
  · replace H := x_ifp c2 H
    refine x_aload_n 130 0 dX9_word_130 rfl rfl ?_
    refine x_iload_n 131 2 dX9_word_131 rfl rfl ?_
    obtain ⟨h3, H⟩ := x_ckp H
    obtain ⟨M4, w5, H⟩ := x_lt_of H
    have h6 : x_tag M4 v0 = 9 + 10 := by rw [w5]; exact h3
    refine x_putI' 132 125 9 28 dX9_word_132 lk_1058 (by decide) (by decide) rfl (Or.inl rfl) (Or.inl rfl) h3 w5 ?_
    refine x_iconst 135 (-1 : Int32) dX9_word_135 (by decide) ?_
    cases H
    exact x_iret 136 dX9_word_136 .int rfl rfl (Nat.le_of_ble_eq_true rfl) (Nat.le_of_ble_eq_true rfl) ⟨rfl, rfl⟩
  · replace H := x_ifn c2 H
    refine x_aload_n 15 0 dX9_word_15 rfl rfl ?_
    obtain ⟨h7, H⟩ := x_ckp H
    refine x_getf 16 128 9 25 (.int (x_i M v0 25)) dX9_word_16 lk_1055 (by decide) (by decide) rfl (fun _ => rfl) h7 ?_
    refine x_istore 19 4 [some (.ref v0), some (.int v1), some (.int v2), some (.int v3), some (.int (x_i M v0 25)), none] dX9_word_19 rfl (Nat.le_of_ble_eq_true rfl) rfl ?_
    refine x_iload_n 21 1 dX9_word_21 rfl rfl ?_
    refine x_istore 22 5 [some (.ref v0), some (.int v1), some (.int v2), some (.int v3), some (.int (x_i M v0 25)), some (.int v1)] dX9_word_22 rfl (Nat.le_of_ble_eq_true rfl) rfl ?_
    exact t_X9_word_24 l hκ9 _ _ _ _ _ _ _ _ H

def lp_X9_word_9 (n : Nat) : Nat → Int32 → Int32 → Int32 → XM → Option (Int32 × XM) := x_rec (fun _ _ _ _ _ => none) (bd_X9_word_9) n
theorem t_X9_word_9 (l : Launch) {q : Int32 × XM} : ∀ (n : Nat) (v0 : Nat) (v1 : Int32) (v2 : Int32) (v3 : Int32) (M : XM), lp_X9_word_9 n v0 v1 v2 v3 M = some q → AW l m_X9_word 1 0 0 (x_Ri q) 0 0 9 [some (.ref v0), some (.int v1), some (.int v2), some (.int v3), none, none] [] M := by
  intro n
  induction n with
  | zero => intro v0 v1 v2 v3 M H; cases H
  | succ n ih => intro v0 v1 v2 v3 M H; exact tb_X9_word_9 l ih H
def f_X9_word (v0 : Nat) (M : XM) : Option (Int32 × XM) :=
  if x_tag M v0 = 9 + 10 then (lp_X9_word_9 x_fuel v0 (0 : Int32) (x_i M v0 25) (0 : Int32) M) else none
set_option maxRecDepth 20000 in
set_option maxHeartbeats 4000000 in
theorem t_X9_word (l : Launch) {v0 : Nat} {M : XM} {q : Int32 × XM} (H : f_X9_word v0 M = some q) : AW l m_X9_word 1 0 0 (x_Ri q) 0 0 0 [some (.ref v0), none, none, none, none, none] [] M := by
  unfold f_X9_word at H
  refine x_iconst 0 (0 : Int32) dX9_word_0 (by decide) ?_
  refine x_istore_n 1 1 [some (.ref v0), some (.int (0 : Int32)), none, none, none, none] dX9_word_1 rfl rfl (Nat.le_of_ble_eq_true rfl) rfl ?_
  refine x_aload_n 2 0 dX9_word_2 rfl rfl ?_
  obtain ⟨h1, H⟩ := x_ckp H
  refine x_getf 3 128 9 25 (.int (x_i M v0 25)) dX9_word_3 lk_1055 (by decide) (by decide) rfl (fun _ => rfl) h1 ?_
  refine x_istore_n 6 2 [some (.ref v0), some (.int (0 : Int32)), some (.int (x_i M v0 25)), none, none, none] dX9_word_6 rfl rfl (Nat.le_of_ble_eq_true rfl) rfl ?_
  refine x_iconst 7 (0 : Int32) dX9_word_7 (by decide) ?_
  refine x_istore_n 8 3 [some (.ref v0), some (.int (0 : Int32)), some (.int (x_i M v0 25)), some (.int (0 : Int32)), none, none] dX9_word_8 rfl rfl (Nat.le_of_ble_eq_true rfl) rfl ?_
  exact t_X9_word_9 l _ _ _ _ _ _ H

theorem ct_X9_word (l : Launch) {v0 : Nat} {M : XM} {q : Int32 × XM} (H : f_X9_word v0 M = some q) : Ct l m_X9_word 1 0 0 [(.ref v0)] M (x_Ri q) := x_met l m_X9_word 1 0 0 [(.ref v0)] M (x_Ri q) _ rfl rfl (Nat.le_of_ble_eq_true rfl) (t_X9_word l H)
abbrev m_X9_isDigit : XU := (yX9_isDigit, cX9_isDigit, 1, (some .boolean))
theorem cn_X9_isDigit : m_X9_isDigit.1.cls ≠ "java/lang/invoke/MethodHandle" ∧ m_X9_isDigit.1.cls ≠ "java/lang/invoke/VarHandle" ∧ (parseMethodDescriptor m_X9_isDigit.1.desc).map (fun q => q.parameters.length) = some 0 := by decide +kernel
def f_X9_isDigit (v0 : Nat) (M : XM) : Option (Int32 × XM) :=
  if x_tag M v0 = 9 + 10 then (if (x_i M v0 26) ≤ (x_i M v0 25) then (some ((0 : Int32), M)) else (if x_at M (x_r M v0 20) 2 ((x_i M v0 24) + (x_i M v0 25)) = true then (if ((x_j M (x_r M v0 20) ((x_i M v0 24) + (x_i M v0 25)).toNatClampNeg).toInt32) < (48 : Int32) then (some ((0 : Int32), M)) else (if (57 : Int32) < ((x_j M (x_r M v0 20) ((x_i M v0 24) + (x_i M v0 25)).toNatClampNeg).toInt32) then (some ((0 : Int32), M)) else (some ((1 : Int32), M)))) else none)) else none
set_option maxRecDepth 20000 in
set_option maxHeartbeats 4000000 in
theorem t_X9_isDigit (l : Launch) {v0 : Nat} {M : XM} {q : Int32 × XM} (H : f_X9_isDigit v0 M = some q) : AW l m_X9_isDigit 1 0 0 (x_Ri q) 0 0 0 [some (.ref v0)] [] M := by
  unfold f_X9_isDigit at H
  refine x_aload_n 0 0 dX9_isDigit_0 rfl rfl ?_
  obtain ⟨h1, H⟩ := x_ckp H
  refine x_getf 1 128 9 25 (.int (x_i M v0 25)) dX9_isDigit_1 lk_1055 (by decide) (by decide) rfl (fun _ => rfl) h1 ?_
  refine x_aload_n 4 0 dX9_isDigit_4 rfl rfl ?_
  refine x_getf 5 131 9 26 (.int (x_i M v0 26)) dX9_isDigit_5 lk_1056 (by decide) (by decide) rfl (fun _ => rfl) h1 ?_
  refine x_icmp_ge 8 55 dX9_isDigit_8 (by decide) (fun c2 => ?_) (fun c2 => ?_)
  · replace H := x_ifp c2 H
    refine x_iconst 55 (0 : Int32) dX9_isDigit_55 (by decide) ?_
    cases H
    exact x_iret 56 dX9_isDigit_56 .boolean rfl rfl (Nat.le_of_ble_eq_true rfl) (Nat.le_of_ble_eq_true rfl) ⟨rfl, rfl⟩
  · replace H := x_ifn c2 H
    refine x_aload_n 11 0 dX9_isDigit_11 rfl rfl ?_
    refine x_getf 12 62 9 20 (.ref (x_r M v0 20)) dX9_isDigit_12 lk_1050 (by decide) (by decide) rfl (fun _ => rfl) h1 ?_
    refine x_aload_n 15 0 dX9_isDigit_15 rfl rfl ?_
    refine x_getf 16 134 9 24 (.int (x_i M v0 24)) dX9_isDigit_16 lk_1054 (by decide) (by decide) rfl (fun _ => rfl) h1 ?_
    refine x_aload_n 19 0 dX9_isDigit_19 rfl rfl ?_
    refine x_getf 20 128 9 25 (.int (x_i M v0 25)) dX9_isDigit_20 lk_1055 (by decide) (by decide) rfl (fun _ => rfl) h1 ?_
    refine x_iadd 23 dX9_isDigit_23 ?_
    obtain ⟨h3, H⟩ := x_ckp H
    refine x_lald 24 dX9_isDigit_24 h3 ?_
    refine x_l2i 25 dX9_isDigit_25 ?_
    refine x_bipush 26 (48 : Int32) dX9_isDigit_26 (by decide) ?_
    refine x_icmp_lt 28 55 dX9_isDigit_28 (by decide) (fun c4 => ?_) (fun c4 => ?_)
    · replace H := x_ifp c4 H
      refine x_iconst 55 (0 : Int32) dX9_isDigit_55 (by decide) ?_
      cases H
      exact x_iret 56 dX9_isDigit_56 .boolean rfl rfl (Nat.le_of_ble_eq_true rfl) (Nat.le_of_ble_eq_true rfl) ⟨rfl, rfl⟩
    · replace H := x_ifn c4 H
      refine x_aload_n 31 0 dX9_isDigit_31 rfl rfl ?_
      refine x_getf 32 62 9 20 (.ref (x_r M v0 20)) dX9_isDigit_32 lk_1050 (by decide) (by decide) rfl (fun _ => rfl) h1 ?_
      refine x_aload_n 35 0 dX9_isDigit_35 rfl rfl ?_
      refine x_getf 36 134 9 24 (.int (x_i M v0 24)) dX9_isDigit_36 lk_1054 (by decide) (by decide) rfl (fun _ => rfl) h1 ?_
      refine x_aload_n 39 0 dX9_isDigit_39 rfl rfl ?_
      refine x_getf 40 128 9 25 (.int (x_i M v0 25)) dX9_isDigit_40 lk_1055 (by decide) (by decide) rfl (fun _ => rfl) h1 ?_
      refine x_iadd 43 dX9_isDigit_43 ?_
      refine x_lald 44 dX9_isDigit_44 h3 ?_
      refine x_l2i 45 dX9_isDigit_45 ?_
      refine x_bipush 46 (57 : Int32) dX9_isDigit_46 (by decide) ?_
      refine x_icmp_gt 48 55 dX9_isDigit_48 (by decide) (fun c5 => ?_) (fun c5 => ?_)
      · replace H := x_ifp c5 H
        refine x_iconst 55 (0 : Int32) dX9_isDigit_55 (by decide) ?_
        cases H
        exact x_iret 56 dX9_isDigit_56 .boolean rfl rfl (Nat.le_of_ble_eq_true rfl) (Nat.le_of_ble_eq_true rfl) ⟨rfl, rfl⟩
      · replace H := x_ifn c5 H
        refine x_iconst 51 (1 : Int32) dX9_isDigit_51 (by decide) ?_
        refine x_goto 52 56 dX9_isDigit_52 (by decide) ?_
        cases H
        exact x_iret 56 dX9_isDigit_56 .boolean rfl rfl (Nat.le_of_ble_eq_true rfl) (Nat.le_of_ble_eq_true rfl) ⟨rfl, rfl⟩

theorem ct_X9_isDigit (l : Launch) {v0 : Nat} {M : XM} {q : Int32 × XM} (H : f_X9_isDigit v0 M = some q) : Ct l m_X9_isDigit 1 0 0 [(.ref v0)] M (x_Ri q) := x_met l m_X9_isDigit 1 0 0 [(.ref v0)] M (x_Ri q) _ rfl rfl (Nat.le_of_ble_eq_true rfl) (t_X9_isDigit l H)
theorem lk_1057 : Cond.fieldLink RX9 137 RX9 "told" "I" ∈ x_TB := x_tb (k := 1057) (by decide +kernel) rfl
theorem lk_1264 : Cond.code yX9_isDigit cX9_isDigit 1 (some .boolean) ∈ x_TB := x_tb (k := 1264) (by decide +kernel) rfl
theorem lk_1261 : Cond.methodLink RX9 140 yX9_isDigit ∈ x_TB := x_tb (k := 1261) (by decide +kernel) rfl
theorem lk_50 : Cond.selects RX9 yX9_isDigit yX9_isDigit ∈ x_TB := x_tb (k := 50) (by decide +kernel) rfl
theorem lk_1263 : Cond.instanceMethod yX9_isDigit ∈ x_TB := x_tb (k := 1263) (by decide +kernel) rfl
theorem lk_1252 : Cond.code yX9_wrong cX9_wrong 2 (some .boolean) ∈ x_TB := x_tb (k := 1252) (by decide +kernel) rfl
theorem lk_1249 : Cond.methodLink RX9 144 yX9_wrong ∈ x_TB := x_tb (k := 1249) (by decide +kernel) rfl
theorem lk_47 : Cond.selects RX9 yX9_wrong yX9_wrong ∈ x_TB := x_tb (k := 47) (by decide +kernel) rfl
theorem lk_1251 : Cond.instanceMethod yX9_wrong ∈ x_TB := x_tb (k := 1251) (by decide +kernel) rfl
abbrev m_X9_number : XU := (yX9_number, cX9_number, 2, (some .boolean))
theorem cn_X9_number : m_X9_number.1.cls ≠ "java/lang/invoke/MethodHandle" ∧ m_X9_number.1.cls ≠ "java/lang/invoke/VarHandle" ∧ (parseMethodDescriptor m_X9_number.1.desc).map (fun q => q.parameters.length) = some 0 := by decide +kernel
def f_X9_number_c29 (κ23 : Nat → Int32 → XM → Option (Int32 × XM)) (v0 : Nat) (v1 : Int32) (s0 : Int32) (M : XM) : Option (Int32 × XM) :=
  if s0 = 0 then (some ((1 : Int32), M)) else (if x_tag M v0 = 9 + 10 then (if x_at M (x_r M v0 20) 2 ((x_i M v0 24) + (x_i M v0 25)) = true then (x_lt (x_wi M v0 27 ((((10 : Int32) * (x_i M v0 27)) + ((x_j M (x_r M v0 20) ((x_i M v0 24) + (x_i M v0 25)).toNatClampNeg).toInt32)) - (48 : Int32))) (fun M22 => x_lt (x_wi M22 v0 25 ((x_i M22 v0 25) + (1 : Int32))) (fun M27 => κ23 v0 (v1 + (1 : Int32)) M27))) else none) else none)
set_option maxRecDepth 20000 in
set_option maxHeartbeats 4000000 in
theorem t_X9_number_c29 (l : Launch) {κ23 : Nat → Int32 → XM → Option (Int32 × XM)} {v0 : Nat} {v1 : Int32} {s0 : Int32} {M : XM} {q : Int32 × XM} (hκ23 : ∀ (v0 : Nat) (v1 : Int32) (M : XM), κ23 v0 v1 M = some q → AW l m_X9_number 2 0 0 (x_Ri q) 0 0 23 [some (.ref v0), some (.int v1)] [] M) (H : f_X9_number_c29 κ23 v0 v1 s0 M = some q) : AW l m_X9_number 2 0 0 (x_Ri q) 0 0 32 [some (.ref v0), some (.int v1)] [(.int s0)] M := by
  unfold f_X9_number_c29 at H
  refine x_if_eq 32 81 dX9_number_32 (by decide) (fun c19 => ?_) (fun c19 => ?_)
  · replace H := x_ifp c19 H
    refine x_iconst 81 (1 : Int32) dX9_number_81 (by decide) ?_
    cases H
    exact x_iret 82 dX9_number_82 .boolean rfl rfl (Nat.le_of_ble_eq_true rfl) (Nat.le_of_ble_eq_true rfl) ⟨rfl, rfl⟩
  · replace H := x_ifn c19 H
    refine x_aload_n 35 0 dX9_number_35 rfl rfl ?_
    refine x_bipush 36 (10 : Int32) dX9_number_36 (by decide) ?_
    refine x_aload_n 38 0 dX9_number_38 rfl rfl ?_
    obtain ⟨h20, H⟩ := x_ckp H
    refine x_getf 39 137 9 27 (.int (x_i M v0 27)) dX9_number_39 lk_1057 (by decide) (by decide) rfl (fun _ => rfl) h20 ?_
    refine x_imul 42 dX9_number_42 ?_
    refine x_aload_n 43 0 dX9_number_43 rfl rfl ?_
    refine x_getf 44 62 9 20 (.ref (x_r M v0 20)) dX9_number_44 lk_1050 (by decide) (by decide) rfl (fun _ => rfl) h20 ?_
    refine x_aload_n 47 0 dX9_number_47 rfl rfl ?_
    refine x_getf 48 134 9 24 (.int (x_i M v0 24)) dX9_number_48 lk_1054 (by decide) (by decide) rfl (fun _ => rfl) h20 ?_
    refine x_aload_n 51 0 dX9_number_51 rfl rfl ?_
    refine x_getf 52 128 9 25 (.int (x_i M v0 25)) dX9_number_52 lk_1055 (by decide) (by decide) rfl (fun _ => rfl) h20 ?_
    refine x_iadd 55 dX9_number_55 ?_
    obtain ⟨h21, H⟩ := x_ckp H
    refine x_lald 56 dX9_number_56 h21 ?_
    refine x_l2i 57 dX9_number_57 ?_
    refine x_iadd 58 dX9_number_58 ?_
    refine x_bipush 59 (48 : Int32) dX9_number_59 (by decide) ?_
    refine x_isub 61 dX9_number_61 ?_
    obtain ⟨M22, w23, H⟩ := x_lt_of H
    have h24 : x_tag M22 v0 = 9 + 10 := by rw [w23]; exact h20
    have h25 : x_at M22 (x_r M v0 20) 2 ((x_i M v0 24) + (x_i M v0 25)) = true := by rw [w23]; exact h21
    have h26 : x_tag M22 (x_r M v0 20) = 2 := by rw [w23]; exact (x_at_1 h21)
    refine x_putI' 62 137 9 27 dX9_number_62 lk_1057 (by decide) (by decide) rfl (Or.inl rfl) (Or.inl rfl) h20 w23 ?_
    refine x_aload_n 65 0 dX9_number_65 rfl rfl ?_
    refine x_dup 66 dX9_number_66 rfl ?_
    refine x_getf 67 128 9 25 (.int (x_i M22 v0 25)) dX9_number_67 lk_1055 (by decide) (by decide) rfl (fun _ => rfl) h24 ?_
    refine x_iconst 70 (1 : Int32) dX9_number_70 (by decide) ?_
    refine x_iadd 71 dX9_number_71 ?_
    obtain ⟨M27, w28, H⟩ := x_lt_of H
    have h29 : x_tag M27 v0 = 9 + 10 := by rw [w28]; exact h24
    have h30 : x_at M27 (x_r M v0 20) 2 ((x_i M v0 24) + (x_i M v0 25)) = true := by rw [w28]; exact h25
    have h31 : x_tag M27 (x_r M v0 20) = 2 := by rw [w28]; exact h26
    refine x_putI' 72 128 9 25 dX9_number_72 lk_1055 (by decide) (by decide) rfl (Or.inl rfl) (Or.inl rfl) h24 w28 ?_
    refine x_iinc 75 1 (v1 + (1 : Int32)) [some (.ref v0), some (.int (v1 + (1 : Int32)))] dX9_number_75 rfl (congrArg (fun z : Int32 => v1 + z) (show Int32.ofInt (1) = (1 : Int32) by decide)) rfl (Nat.le_of_ble_eq_true rfl) rfl ?_
    refine x_goto 78 23 dX9_number_78 (by decide) ?_
    exact hκ23 _ _ _ H

def bd_X9_number_23 (κ23 : Nat → Int32 → XM → Option (Int32 × XM)) (v0 : Nat) (v1 : Int32) (M : XM) : Option (Int32 × XM) :=
  if (4 : Int32) ≤ v1 then (some ((1 : Int32), M)) else (if x_tag M v0 = 9 + 10 then (x_bd (f_X9_isDigit v0 M) (f_X9_number_c29 κ23 v0 v1)) else none)
set_option maxRecDepth 20000 in
set_option maxHeartbeats 4000000 in
theorem tb_X9_number_23 (l : Launch) {κ23 : Nat → Int32 → XM → Option (Int32 × XM)} {v0 : Nat} {v1 : Int32} {M : XM} {q : Int32 × XM} (hκ23 : ∀ (v0 : Nat) (v1 : Int32) (M : XM), κ23 v0 v1 M = some q → AW l m_X9_number 2 0 0 (x_Ri q) 0 0 23 [some (.ref v0), some (.int v1)] [] M) (H : bd_X9_number_23 κ23 v0 v1 M = some q) : AW l m_X9_number 2 0 0 (x_Ri q) 0 0 23 [some (.ref v0), some (.int v1)] [] M := by
  unfold bd_X9_number_23 at H
  refine x_iload_n 23 1 dX9_number_23 rfl rfl ?_
  refine x_iconst 24 (4 : Int32) dX9_number_24 (by decide) ?_
  refine x_icmp_ge 25 81 dX9_number_25 (by decide) (fun c14 => ?_) (fun c14 => ?_)
  · replace H := x_ifp c14 H
    refine x_iconst 81 (1 : Int32) dX9_number_81 (by decide) ?_
    cases H
    exact x_iret 82 dX9_number_82 .boolean rfl rfl (Nat.le_of_ble_eq_true rfl) (Nat.le_of_ble_eq_true rfl) ⟨rfl, rfl⟩
  · replace H := x_ifn c14 H
    refine x_aload_n 28 0 dX9_number_28 rfl rfl ?_
    obtain ⟨h15, H⟩ := x_ckp H
    obtain ⟨r17, M16, e18, H⟩ := x_bd_of H
    refine x_callV 29 140 9 [] [] dX9_number_29 (ct_X9_isDigit l e18) lk_1261 lk_1263 lk_50 (by decide) h15 lk_94 lk_1264 ⟨cn_X9_isDigit, (by decide), by decide⟩ rfl (Nat.le_of_ble_eq_true rfl) (Nat.le_of_ble_eq_true rfl) (Nat.le_of_ble_eq_true rfl) (x_ri ?_)
    exact t_X9_number_c29 l hκ23 H

def lp_X9_number_23 (n : Nat) : Nat → Int32 → XM → Option (Int32 × XM) := x_rec (fun _ _ _ => none) (bd_X9_number_23) n
theorem t_X9_number_23 (l : Launch) {q : Int32 × XM} : ∀ (n : Nat) (v0 : Nat) (v1 : Int32) (M : XM), lp_X9_number_23 n v0 v1 M = some q → AW l m_X9_number 2 0 0 (x_Ri q) 0 0 23 [some (.ref v0), some (.int v1)] [] M := by
  intro n
  induction n with
  | zero => intro v0 v1 M H; cases H
  | succ n ih => intro v0 v1 M H; exact tb_X9_number_23 l ih H
def f_X9_number_c6 (v0 : Nat) (s0 : Int32) (M : XM) : Option (Int32 × XM) :=
  if s0 = 0 then (if x_tag M v0 = 9 + 10 then (x_bd (f_X9_wrong v0 (x_i M v0 25) M) (fun r11 M10 => if r11 = 0 ∨ r11 = 1 then (some (r11, M10)) else none)) else none) else (lp_X9_number_23 x_fuel v0 (0 : Int32) M)
set_option maxRecDepth 20000 in
set_option maxHeartbeats 4000000 in
theorem t_X9_number_c6 (l : Launch) {v0 : Nat} {s0 : Int32} {M : XM} {q : Int32 × XM} (H : f_X9_number_c6 v0 s0 M = some q) : AW l m_X9_number 2 0 0 (x_Ri q) 0 0 9 [some (.ref v0), none] [(.int s0)] M := by
  unfold f_X9_number_c6 at H
  refine x_if_ne 9 21 dX9_number_9 (by decide) (fun c8 => ?_) (fun c8 => ?_)
  · replace H := x_ifn c8 H
    refine x_iconst 21 (0 : Int32) dX9_number_21 (by decide) ?_
    refine x_istore_n 22 1 [some (.ref v0), some (.int (0 : Int32))] dX9_number_22 rfl rfl (Nat.le_of_ble_eq_true rfl) rfl ?_
    exact t_X9_number_23 l _ _ _ _ H
  · replace H := x_ifp c8 H
    refine x_aload_n 12 0 dX9_number_12 rfl rfl ?_
    refine x_aload_n 13 0 dX9_number_13 rfl rfl ?_
    obtain ⟨h9, H⟩ := x_ckp H
    refine x_getf 14 128 9 25 (.int (x_i M v0 25)) dX9_number_14 lk_1055 (by decide) (by decide) rfl (fun _ => rfl) h9 ?_
    obtain ⟨r11, M10, e12, H⟩ := x_bd_of H
    refine x_callV 17 144 9 [(.int (x_i M v0 25))] [] dX9_number_17 (ct_X9_wrong l e12) lk_1249 lk_1251 lk_47 (by decide) h9 lk_94 lk_1252 ⟨cn_X9_wrong, (by decide), by decide⟩ rfl (Nat.le_of_ble_eq_true rfl) (Nat.le_of_ble_eq_true rfl) (Nat.le_of_ble_eq_true rfl) (x_ri ?_)
    obtain ⟨h13, H⟩ := x_ckp H
    cases H
    exact x_iret 20 dX9_number_20 .boolean rfl (x_narZ h13) (Nat.le_of_ble_eq_true rfl) (Nat.le_of_ble_eq_true rfl) ⟨rfl, rfl⟩

def f_X9_number (v0 : Nat) (M : XM) : Option (Int32 × XM) :=
  if x_tag M v0 = 9 + 10 then (x_lt (x_wi M v0 27 (0 : Int32)) (fun M2 => x_bd (f_X9_isDigit v0 M2) (f_X9_number_c6 v0))) else none
set_option maxRecDepth 20000 in
set_option maxHeartbeats 4000000 in
theorem t_X9_number (l : Launch) {v0 : Nat} {M : XM} {q : Int32 × XM} (H : f_X9_number v0 M = some q) : AW l m_X9_number 2 0 0 (x_Ri q) 0 0 0 [some (.ref v0), none] [] M := by
  unfold f_X9_number at H
  refine x_aload_n 0 0 dX9_number_0 rfl rfl ?_
  refine x_iconst 1 (0 : Int32) dX9_number_1 (by decide) ?_
  obtain ⟨h1, H⟩ := x_ckp H
  obtain ⟨M2, w3, H⟩ := x_lt_of H
  have h4 : x_tag M2 v0 = 9 + 10 := by rw [w3]; exact h1
  refine x_putI' 2 137 9 27 dX9_number_2 lk_1057 (by decide) (by decide) rfl (Or.inl rfl) (Or.inl rfl) h1 w3 ?_
  refine x_aload_n 5 0 dX9_number_5 rfl rfl ?_
  obtain ⟨r6, M5, e7, H⟩ := x_bd_of H
  refine x_callV 6 140 9 [] [] dX9_number_6 (ct_X9_isDigit l e7) lk_1261 lk_1263 lk_50 (by decide) h4 lk_94 lk_1264 ⟨cn_X9_isDigit, (by decide), by decide⟩ rfl (Nat.le_of_ble_eq_true rfl) (Nat.le_of_ble_eq_true rfl) (Nat.le_of_ble_eq_true rfl) (x_ri ?_)
  exact t_X9_number_c6 l H

theorem ct_X9_number (l : Launch) {v0 : Nat} {M : XM} {q : Int32 × XM} (H : f_X9_number v0 M = some q) : Ct l m_X9_number 2 0 0 [(.ref v0)] M (x_Ri q) := x_met l m_X9_number 2 0 0 [(.ref v0)] M (x_Ri q) _ rfl rfl (Nat.le_of_ble_eq_true rfl) (t_X9_number l H)
abbrev m_X9_isSo : XU := (yX9_isSo, cX9_isSo, 3, (some .boolean))
theorem cn_X9_isSo : m_X9_isSo.1.cls ≠ "java/lang/invoke/MethodHandle" ∧ m_X9_isSo.1.cls ≠ "java/lang/invoke/VarHandle" ∧ (parseMethodDescriptor m_X9_isSo.1.desc).map (fun q => q.parameters.length) = some 2 := by decide +kernel
def f_X9_isSo_51 (s0 : Int32) (s1 : Int32) (M : XM) : Option (Int32 × XM) :=
  if s0 < s1 then (some ((0 : Int32), M)) else (some ((1 : Int32), M))
set_option maxRecDepth 20000 in
set_option maxHeartbeats 4000000 in
theorem t_X9_isSo_51 (l : Launch) {s0 : Int32} {s1 : Int32} {M : XM} {q : Int32 × XM} (H : f_X9_isSo_51 s0 s1 M = some q) : AW l m_X9_isSo 2 0 0 (x_Ri q) 0 0 51 [none, none, none] [(.int s0), (.int s1)] M := by
  unfold f_X9_isSo_51 at H
  refine x_icmp_gt 51 58 dX9_isSo_51 (by decide) (fun c4 => ?_) (fun c4 => ?_)
  · replace H := x_ifp c4 H
    refine x_iconst 58 (0 : Int32) dX9_isSo_58 (by decide) ?_
    cases H
    exact x_iret 59 dX9_isSo_59 .boolean rfl rfl (Nat.le_of_ble_eq_true rfl) (Nat.le_of_ble_eq_true rfl) ⟨rfl, rfl⟩
  · replace H := x_ifn c4 H
    refine x_iconst 54 (1 : Int32) dX9_isSo_54 (by decide) ?_
    refine x_goto 55 59 dX9_isSo_55 (by decide) ?_
    cases H
    exact x_iret 59 dX9_isSo_59 .boolean rfl rfl (Nat.le_of_ble_eq_true rfl) (Nat.le_of_ble_eq_true rfl) ⟨rfl, rfl⟩

def f_X9_isSo (v0 : Nat) (v1 : Int32) (v2 : Int32) (M : XM) : Option (Int32 × XM) :=
  if v1 = (0 : Int32) then (if x_tag M v0 = 9 + 10 then (if v2 = 0 then (f_X9_isSo_51 (6 : Int32) (x_i M v0 27) M) else (f_X9_isSo_51 (9 : Int32) (x_i M v0 27) M)) else none) else if v1 = (5 : Int32) then (some ((1 : Int32), M)) else if v1 = (6 : Int32) then (if x_tag M v0 = 9 + 10 then (if (x_i M v0 0) ≤ (x_i M v0 27) then (some ((0 : Int32), M)) else (if x_at M (x_r M v0 12) 1 (x_i M v0 27) = true then (if (x_i M v0 1) ≤ (x_i M (x_r M v0 12) (x_i M v0 27).toNatClampNeg) then (some ((0 : Int32), M)) else (some ((1 : Int32), M))) else none)) else none) else if x_tag M v0 = 9 + 10 then (x_bd (f_X9_isAsked v0 (v1 - (1 : Int32)) (x_i M v0 27) M) (fun r13 M12 => if r13 = 0 ∨ r13 = 1 then (some (r13, M12)) else none)) else none
set_option maxRecDepth 20000 in
set_option maxHeartbeats 4000000 in
theorem t_X9_isSo (l : Launch) {v0 : Nat} {v1 : Int32} {v2 : Int32} {M : XM} {q : Int32 × XM} (H : f_X9_isSo v0 v1 v2 M = some q) : AW l m_X9_isSo 2 0 0 (x_Ri q) 0 0 0 [some (.ref v0), some (.int v1), some (.int v2)] [] M := by
  unfold f_X9_isSo at H
  refine x_iload_n 0 1 dX9_isSo_0 rfl rfl ?_
  by_cases c1 : v1 = (0 : Int32)
  · replace H := x_ifp c1 H
    refine x_lookup (off := 35) 1 36 dX9_isSo_1 (by decide) (by rw [c1]; rfl) (by decide) ?_
    refine x_aload_n 36 0 dX9_isSo_36 rfl rfl ?_
    obtain ⟨h2, H⟩ := x_ckp H
    refine x_getf 37 137 9 27 (.int (x_i M v0 27)) dX9_isSo_37 lk_1057 (by decide) (by decide) rfl (fun _ => rfl) h2 ?_
    refine x_iload_n 40 2 dX9_isSo_40 rfl rfl ?_
    refine x_if_ne 41 49 dX9_isSo_41 (by decide) (fun c3 => ?_) (fun c3 => ?_)
    · replace H := x_ifn c3 H
      refine x_bipush 49 (9 : Int32) dX9_isSo_49 (by decide) ?_
      exact x_wk (le_n (le_n (le_n le_0))) (t_X9_isSo_51 l H)
    · replace H := x_ifp c3 H
      refine x_bipush 44 (6 : Int32) dX9_isSo_44 (by decide) ?_
      refine x_goto 46 51 dX9_isSo_46 (by decide) ?_
      exact x_wk (le_n (le_n (le_n le_0))) (t_X9_isSo_51 l H)
  · replace H := x_ifn c1 H
    by_cases c5 : v1 = (5 : Int32)
    · replace H := x_ifp c5 H
      refine x_lookup (off := 59) 1 60 dX9_isSo_1 (by decide) (by rw [c5]; rfl) (by decide) ?_
      refine x_iconst 60 (1 : Int32) dX9_isSo_60 (by decide) ?_
      cases H
      exact x_iret 61 dX9_isSo_61 .boolean rfl rfl (Nat.le_of_ble_eq_true rfl) (Nat.le_of_ble_eq_true rfl) ⟨rfl, rfl⟩
    · replace H := x_ifn c5 H
      by_cases c6 : v1 = (6 : Int32)
      · replace H := x_ifp c6 H
        refine x_lookup (off := 61) 1 62 dX9_isSo_1 (by decide) (by rw [c6]; rfl) (by decide) ?_
        refine x_aload_n 62 0 dX9_isSo_62 rfl rfl ?_
        obtain ⟨h7, H⟩ := x_ckp H
        refine x_getf 63 137 9 27 (.int (x_i M v0 27)) dX9_isSo_63 lk_1057 (by decide) (by decide) rfl (fun _ => rfl) h7 ?_
        refine x_aload_n 66 0 dX9_isSo_66 rfl rfl ?_
        refine x_getf 67 93 9 0 (.int (x_i M v0 0)) dX9_isSo_67 lk_1030 (by decide) (by decide) rfl (fun _ => rfl) h7 ?_
        refine x_icmp_ge 70 93 dX9_isSo_70 (by decide) (fun c8 => ?_) (fun c8 => ?_)
        · replace H := x_ifp c8 H
          refine x_iconst 93 (0 : Int32) dX9_isSo_93 (by decide) ?_
          cases H
          exact x_iret 94 dX9_isSo_94 .boolean rfl rfl (Nat.le_of_ble_eq_true rfl) (Nat.le_of_ble_eq_true rfl) ⟨rfl, rfl⟩
        · replace H := x_ifn c8 H
          refine x_aload_n 73 0 dX9_isSo_73 rfl rfl ?_
          refine x_getf 74 38 9 12 (.ref (x_r M v0 12)) dX9_isSo_74 lk_1042 (by decide) (by decide) rfl (fun _ => rfl) h7 ?_
          refine x_aload_n 77 0 dX9_isSo_77 rfl rfl ?_
          refine x_getf 78 137 9 27 (.int (x_i M v0 27)) dX9_isSo_78 lk_1057 (by decide) (by decide) rfl (fun _ => rfl) h7 ?_
          obtain ⟨h9, H⟩ := x_ckp H
          refine x_iald 81 dX9_isSo_81 h9 ?_
          refine x_aload_n 82 0 dX9_isSo_82 rfl rfl ?_
          refine x_getf 83 7 9 1 (.int (x_i M v0 1)) dX9_isSo_83 lk_1031 (by decide) (by decide) rfl (fun _ => rfl) h7 ?_
          refine x_icmp_ge 86 93 dX9_isSo_86 (by decide) (fun c10 => ?_) (fun c10 => ?_)
          · replace H := x_ifp c10 H
            refine x_iconst 93 (0 : Int32) dX9_isSo_93 (by decide) ?_
            cases H
            exact x_iret 94 dX9_isSo_94 .boolean rfl rfl (Nat.le_of_ble_eq_true rfl) (Nat.le_of_ble_eq_true rfl) ⟨rfl, rfl⟩
          · replace H := x_ifn c10 H
            refine x_iconst 89 (1 : Int32) dX9_isSo_89 (by decide) ?_
            refine x_goto 90 94 dX9_isSo_90 (by decide) ?_
            cases H
            exact x_iret 94 dX9_isSo_94 .boolean rfl rfl (Nat.le_of_ble_eq_true rfl) (Nat.le_of_ble_eq_true rfl) ⟨rfl, rfl⟩
      · replace H := x_ifn c6 H
        refine x_lookup (off := 94) 1 95 dX9_isSo_1 (by decide) (by show Op.lookupswitch.offset [(0, 35), (5, 59), (6, 61)] 94 _ = _; rw [lv_osw c1 (by decide), lv_osw c5 (by decide), lv_osw c6 (by decide)]; rfl) (by decide) ?_
        refine x_aload_n 95 0 dX9_isSo_95 rfl rfl ?_
        refine x_iload_n 96 1 dX9_isSo_96 rfl rfl ?_
        refine x_iconst 97 (1 : Int32) dX9_isSo_97 (by decide) ?_
        refine x_isub 98 dX9_isSo_98 ?_
        refine x_aload_n 99 0 dX9_isSo_99 rfl rfl ?_
        obtain ⟨h11, H⟩ := x_ckp H
        refine x_getf 100 137 9 27 (.int (x_i M v0 27)) dX9_isSo_100 lk_1057 (by decide) (by decide) rfl (fun _ => rfl) h11 ?_
        obtain ⟨r13, M12, e14, H⟩ := x_bd_of H
        refine x_callV 103 117 9 [(.int (v1 - (1 : Int32))), (.int (x_i M v0 27))] [] dX9_isSo_103 (ct_X9_isAsked l e14) lk_1213 lk_1215 lk_40 (by decide) h11 lk_94 lk_1216 ⟨cn_X9_isAsked, (by decide), by decide⟩ rfl (Nat.le_of_ble_eq_true rfl) (Nat.le_of_ble_eq_true rfl) (Nat.le_of_ble_eq_true rfl) (x_ri ?_)
        obtain ⟨h15, H⟩ := x_ckp H
        cases H
        exact x_iret 106 dX9_isSo_106 .boolean rfl (x_narZ h15) (Nat.le_of_ble_eq_true rfl) (Nat.le_of_ble_eq_true rfl) ⟨rfl, rfl⟩

theorem ct_X9_isSo (l : Launch) {v0 : Nat} {v1 : Int32} {v2 : Int32} {M : XM} {q : Int32 × XM} (H : f_X9_isSo v0 v1 v2 M = some q) : Ct l m_X9_isSo 2 0 0 [(.ref v0), (.int v1), (.int v2)] M (x_Ri q) := x_met l m_X9_isSo 2 0 0 [(.ref v0), (.int v1), (.int v2)] M (x_Ri q) _ rfl rfl (Nat.le_of_ble_eq_true rfl) (t_X9_isSo l H)
theorem lk_1248 : Cond.code yX9_isWordAt cX9_isWordAt 4 (some .boolean) ∈ x_TB := x_tb (k := 1248) (by decide +kernel) rfl
theorem lk_1245 : Cond.methodLink RX9 147 yX9_isWordAt ∈ x_TB := x_tb (k := 1245) (by decide +kernel) rfl
theorem lk_46 : Cond.selects RX9 yX9_isWordAt yX9_isWordAt ∈ x_TB := x_tb (k := 46) (by decide +kernel) rfl
theorem lk_1247 : Cond.instanceMethod yX9_isWordAt ∈ x_TB := x_tb (k := 1247) (by decide +kernel) rfl
theorem lk_1256 : Cond.code yX9_word cX9_word 6 (some .int) ∈ x_TB := x_tb (k := 1256) (by decide +kernel) rfl
theorem lk_1253 : Cond.methodLink RX9 153 yX9_word ∈ x_TB := x_tb (k := 1253) (by decide +kernel) rfl
theorem lk_48 : Cond.selects RX9 yX9_word yX9_word ∈ x_TB := x_tb (k := 48) (by decide +kernel) rfl
theorem lk_1255 : Cond.instanceMethod yX9_word ∈ x_TB := x_tb (k := 1255) (by decide +kernel) rfl
theorem lk_1036 : Cond.fieldLink RX9 150 RX9 "tallied" "I" ∈ x_TB := x_tb (k := 1036) (by decide +kernel) rfl
abbrev m_X9_left : XU := (yX9_left, cX9_left, 5, (some .int))
theorem cn_X9_left : m_X9_left.1.cls ≠ "java/lang/invoke/MethodHandle" ∧ m_X9_left.1.cls ≠ "java/lang/invoke/VarHandle" ∧ (parseMethodDescriptor m_X9_left.1.desc).map (fun q => q.parameters.length) = some 3 := by decide +kernel
def f_X9_left (v0 : Nat) (v1 : Int32) (v2 : Int32) (v3 : Int32) (M : XM) : Option (Int32 × XM) :=
  if x_tag M v0 = 9 + 10 then (if x_at M (x_r M v0 11) 1 v1 = true then (if x_at M (x_r M v0 10) 1 v1 = true then (if (x_i M (x_r M v0 10) v1.toNatClampNeg) = (1 : Int32) then (if (x_i M v0 2) = 0 then none else some ((v2 - (v2 - v2 / (x_i M v0 2) * (x_i M v0 2))), M)) else if (x_i M (x_r M v0 10) v1.toNatClampNeg) = (2 : Int32) then (some (v2, M)) else if (x_i M (x_r M v0 10) v1.toNatClampNeg) = (3 : Int32) then (if ((x_i M (x_r M v0 11) v1.toNatClampNeg) + (2 : Int32)) = 0 then none else some ((v2 - (v2 - v2 / ((x_i M (x_r M v0 11) v1.toNatClampNeg) + (2 : Int32)) * ((x_i M (x_r M v0 11) v1.toNatClampNeg) + (2 : Int32)))), M)) else if (x_i M (x_r M v0 10) v1.toNatClampNeg) = (4 : Int32) then (if ((x_i M (x_r M v0 11) v1.toNatClampNeg) + (1 : Int32)) = 0 then none else if (v3 - v3 / ((x_i M (x_r M v0 11) v1.toNatClampNeg) + (1 : Int32)) * ((x_i M (x_r M v0 11) v1.toNatClampNeg) + (1 : Int32))) = 0 then (some ((0 : Int32), M)) else (some (v2, M))) else if (x_i M (x_r M v0 10) v1.toNatClampNeg) = (5 : Int32) then (if (x_i M v0 2) = 0 then none else if (x_i M (x_r M v0 11) v1.toNatClampNeg) < (v2 - v2 / (x_i M v0 2) * (x_i M v0 2)) then (some ((v2 - (v2 - v2 / (x_i M v0 2) * (x_i M v0 2))), M)) else (some (v2, M))) else if (x_i M (x_r M v0 10) v1.toNatClampNeg) = (6 : Int32) then (if ((x_i M (x_r M v0 11) v1.toNatClampNeg) + (1 : Int32)) = 0 then none else if (v3 - v3 / ((x_i M (x_r M v0 11) v1.toNatClampNeg) + (1 : Int32)) * ((x_i M (x_r M v0 11) v1.toNatClampNeg) + (1 : Int32))) = 0 then (some ((v2 / (2 : Int32)), M)) else (some (v2, M))) else some ((0 : Int32), M)) else none) else none) else none
set_option maxRecDepth 20000 in
set_option maxHeartbeats 4000000 in
theorem t_X9_left (l : Launch) {v0 : Nat} {v1 : Int32} {v2 : Int32} {v3 : Int32} {M : XM} {q : Int32 × XM} (H : f_X9_left v0 v1 v2 v3 M = some q) : AW l m_X9_left 1 0 0 (x_Ri q) 0 0 0 [some (.ref v0), some (.int v1), some (.int v2), some (.int v3), none] [] M := by
  unfold f_X9_left at H
  refine x_aload_n 0 0 dX9_left_0 rfl rfl ?_
  obtain ⟨h1, H⟩ := x_ckp H
  refine x_getf 1 35 9 11 (.ref (x_r M v0 11)) dX9_left_1 lk_1041 (by decide) (by decide) rfl (fun _ => rfl) h1 ?_
  refine x_iload_n 4 1 dX9_left_4 rfl rfl ?_
  obtain ⟨h2, H⟩ := x_ckp H
  refine x_iald 5 dX9_left_5 h2 ?_
  refine x_istore 6 4 [some (.ref v0), some (.int v1), some (.int v2), some (.int v3), some (.int (x_i M (x_r M v0 11) v1.toNatClampNeg))] dX9_left_6 rfl (Nat.le_of_ble_eq_true rfl) rfl ?_
  refine x_aload_n 8 0 dX9_left_8 rfl rfl ?_
  refine x_getf 9 32 9 10 (.ref (x_r M v0 10)) dX9_left_9 lk_1040 (by decide) (by decide) rfl (fun _ => rfl) h1 ?_
  refine x_iload_n 12 1 dX9_left_12 rfl rfl ?_
  obtain ⟨h3, H⟩ := x_ckp H
  refine x_iald 13 dX9_left_13 h3 ?_
  by_cases c4 : (x_i M (x_r M v0 10) v1.toNatClampNeg) = (1 : Int32)
  · replace H := x_ifp c4 H
    refine x_tableIn (off := 38) 14 52 dX9_left_14 (by rw [c4]; decide) (by rw [c4]; decide) (by rw [c4]; rfl) (by decide) ?_
    refine x_iload_n 52 2 dX9_left_52 rfl rfl ?_
    refine x_iload_n 53 2 dX9_left_53 rfl rfl ?_
    refine x_aload_n 54 0 dX9_left_54 rfl rfl ?_
    refine x_getf 55 13 9 2 (.int (x_i M v0 2)) dX9_left_55 lk_1032 (by decide) (by decide) rfl (fun _ => rfl) h1 ?_
    obtain ⟨h5, H⟩ := x_cnz H
    refine x_irem 58 dX9_left_58 h5 ?_
    refine x_isub 59 dX9_left_59 ?_
    cases H
    exact x_iret 60 dX9_left_60 .int rfl rfl (Nat.le_of_ble_eq_true rfl) (Nat.le_of_ble_eq_true rfl) ⟨rfl, rfl⟩
  · replace H := x_ifn c4 H
    by_cases c6 : (x_i M (x_r M v0 10) v1.toNatClampNeg) = (2 : Int32)
    · replace H := x_ifp c6 H
      refine x_tableIn (off := 47) 14 61 dX9_left_14 (by rw [c6]; decide) (by rw [c6]; decide) (by rw [c6]; rfl) (by decide) ?_
      refine x_iload_n 61 2 dX9_left_61 rfl rfl ?_
      cases H
      exact x_iret 62 dX9_left_62 .int rfl rfl (Nat.le_of_ble_eq_true rfl) (Nat.le_of_ble_eq_true rfl) ⟨rfl, rfl⟩
    · replace H := x_ifn c6 H
      by_cases c7 : (x_i M (x_r M v0 10) v1.toNatClampNeg) = (3 : Int32)
      · replace H := x_ifp c7 H
        refine x_tableIn (off := 49) 14 63 dX9_left_14 (by rw [c7]; decide) (by rw [c7]; decide) (by rw [c7]; rfl) (by decide) ?_
        refine x_iload_n 63 2 dX9_left_63 rfl rfl ?_
        refine x_iload_n 64 2 dX9_left_64 rfl rfl ?_
        refine x_iload 65 4 dX9_left_65 rfl ?_
        refine x_iconst 67 (2 : Int32) dX9_left_67 (by decide) ?_
        refine x_iadd 68 dX9_left_68 ?_
        obtain ⟨h8, H⟩ := x_cnz H
        refine x_irem 69 dX9_left_69 h8 ?_
        refine x_isub 70 dX9_left_70 ?_
        cases H
        exact x_iret 71 dX9_left_71 .int rfl rfl (Nat.le_of_ble_eq_true rfl) (Nat.le_of_ble_eq_true rfl) ⟨rfl, rfl⟩
      · replace H := x_ifn c7 H
        by_cases c9 : (x_i M (x_r M v0 10) v1.toNatClampNeg) = (4 : Int32)
        · replace H := x_ifp c9 H
          refine x_tableIn (off := 82) 14 96 dX9_left_14 (by rw [c9]; decide) (by rw [c9]; decide) (by rw [c9]; rfl) (by decide) ?_
          refine x_iload_n 96 3 dX9_left_96 rfl rfl ?_
          refine x_iload 97 4 dX9_left_97 rfl ?_
          refine x_iconst 99 (1 : Int32) dX9_left_99 (by decide) ?_
          refine x_iadd 100 dX9_left_100 ?_
          obtain ⟨h10, H⟩ := x_cnz H
          refine x_irem 101 dX9_left_101 h10 ?_
          refine x_if_ne 102 109 dX9_left_102 (by decide) (fun c11 => ?_) (fun c11 => ?_)
          · replace H := x_ifn c11 H
            refine x_iload_n 109 2 dX9_left_109 rfl rfl ?_
            cases H
            exact x_iret 110 dX9_left_110 .int rfl rfl (Nat.le_of_ble_eq_true rfl) (Nat.le_of_ble_eq_true rfl) ⟨rfl, rfl⟩
          · replace H := x_ifp c11 H
            refine x_iconst 105 (0 : Int32) dX9_left_105 (by decide) ?_
            refine x_goto 106 110 dX9_left_106 (by decide) ?_
            cases H
            exact x_iret 110 dX9_left_110 .int rfl rfl (Nat.le_of_ble_eq_true rfl) (Nat.le_of_ble_eq_true rfl) ⟨rfl, rfl⟩
        · replace H := x_ifn c9 H
          by_cases c12 : (x_i M (x_r M v0 10) v1.toNatClampNeg) = (5 : Int32)
          · replace H := x_ifp c12 H
            refine x_tableIn (off := 58) 14 72 dX9_left_14 (by rw [c12]; decide) (by rw [c12]; decide) (by rw [c12]; rfl) (by decide) ?_
            refine x_iload_n 72 2 dX9_left_72 rfl rfl ?_
            refine x_aload_n 73 0 dX9_left_73 rfl rfl ?_
            refine x_getf 74 13 9 2 (.int (x_i M v0 2)) dX9_left_74 lk_1032 (by decide) (by decide) rfl (fun _ => rfl) h1 ?_
            obtain ⟨h13, H⟩ := x_cnz H
            refine x_irem 77 dX9_left_77 h13 ?_
            refine x_iload 78 4 dX9_left_78 rfl ?_
            refine x_icmp_gt 80 87 dX9_left_80 (by decide) (fun c14 => ?_) (fun c14 => ?_)
            · replace H := x_ifp c14 H
              refine x_iload_n 87 2 dX9_left_87 rfl rfl ?_
              refine x_iload_n 88 2 dX9_left_88 rfl rfl ?_
              refine x_aload_n 89 0 dX9_left_89 rfl rfl ?_
              refine x_getf 90 13 9 2 (.int (x_i M v0 2)) dX9_left_90 lk_1032 (by decide) (by decide) rfl (fun _ => rfl) h1 ?_
              refine x_irem 93 dX9_left_93 h13 ?_
              refine x_isub 94 dX9_left_94 ?_
              cases H
              exact x_iret 95 dX9_left_95 .int rfl rfl (Nat.le_of_ble_eq_true rfl) (Nat.le_of_ble_eq_true rfl) ⟨rfl, rfl⟩
            · replace H := x_ifn c14 H
              refine x_iload_n 83 2 dX9_left_83 rfl rfl ?_
              refine x_goto 84 95 dX9_left_84 (by decide) ?_
              cases H
              exact x_iret 95 dX9_left_95 .int rfl rfl (Nat.le_of_ble_eq_true rfl) (Nat.le_of_ble_eq_true rfl) ⟨rfl, rfl⟩
          · replace H := x_ifn c12 H
            by_cases c15 : (x_i M (x_r M v0 10) v1.toNatClampNeg) = (6 : Int32)
            · replace H := x_ifp c15 H
              refine x_tableIn (off := 97) 14 111 dX9_left_14 (by rw [c15]; decide) (by rw [c15]; decide) (by rw [c15]; rfl) (by decide) ?_
              refine x_iload_n 111 3 dX9_left_111 rfl rfl ?_
              refine x_iload 112 4 dX9_left_112 rfl ?_
              refine x_iconst 114 (1 : Int32) dX9_left_114 (by decide) ?_
              refine x_iadd 115 dX9_left_115 ?_
              obtain ⟨h16, H⟩ := x_cnz H
              refine x_irem 116 dX9_left_116 h16 ?_
              refine x_if_ne 117 126 dX9_left_117 (by decide) (fun c17 => ?_) (fun c17 => ?_)
              · replace H := x_ifn c17 H
                refine x_iload_n 126 2 dX9_left_126 rfl rfl ?_
                cases H
                exact x_iret 127 dX9_left_127 .int rfl rfl (Nat.le_of_ble_eq_true rfl) (Nat.le_of_ble_eq_true rfl) ⟨rfl, rfl⟩
              · replace H := x_ifp c17 H
                refine x_iload_n 120 2 dX9_left_120 rfl rfl ?_
                refine x_iconst 121 (2 : Int32) dX9_left_121 (by decide) ?_
                refine x_idiv 122 dX9_left_122 (by decide) ?_
                refine x_goto 123 127 dX9_left_123 (by decide) ?_
                cases H
                exact x_iret 127 dX9_left_127 .int rfl rfl (Nat.le_of_ble_eq_true rfl) (Nat.le_of_ble_eq_true rfl) ⟨rfl, rfl⟩
            · replace H := x_ifn c15 H
              refine x_tableOut 14 128 dX9_left_14 (by have n0 := lv_neT (a := 1) c4 (by decide); have n1 := lv_neT (a := 2) c6 (by decide); have n2 := lv_neT (a := 3) c7 (by decide); have n3 := lv_neT (a := 4) c9 (by decide); have n4 := lv_neT (a := 5) c12 (by decide); have n5 := lv_neT (a := 6) c15 (by decide); omega) (by decide) ?_
              refine x_iconst 128 (0 : Int32) dX9_left_128 (by decide) ?_
              cases H
              exact x_iret 129 dX9_left_129 .int rfl rfl (Nat.le_of_ble_eq_true rfl) (Nat.le_of_ble_eq_true rfl) ⟨rfl, rfl⟩

theorem ct_X9_left (l : Launch) {v0 : Nat} {v1 : Int32} {v2 : Int32} {v3 : Int32} {M : XM} {q : Int32 × XM} (H : f_X9_left v0 v1 v2 v3 M = some q) : Ct l m_X9_left 1 0 0 [(.ref v0), (.int v1), (.int v2), (.int v3)] M (x_Ri q) := x_met l m_X9_left 1 0 0 [(.ref v0), (.int v1), (.int v2), (.int v3)] M (x_Ri q) _ rfl rfl (Nat.le_of_ble_eq_true rfl) (t_X9_left l H)
theorem lk_1276 : Cond.code yX9_left cX9_left 5 (some .int) ∈ x_TB := x_tb (k := 1276) (by decide +kernel) rfl
theorem lk_1273 : Cond.methodLink RX9 183 yX9_left ∈ x_TB := x_tb (k := 1273) (by decide +kernel) rfl
theorem lk_53 : Cond.selects RX9 yX9_left yX9_left ∈ x_TB := x_tb (k := 53) (by decide +kernel) rfl
theorem lk_1275 : Cond.instanceMethod yX9_left ∈ x_TB := x_tb (k := 1275) (by decide +kernel) rfl
abbrev m_X9_breaksOff : XU := (yX9_breaksOff, cX9_breaksOff, 2, none)
theorem cn_X9_breaksOff : m_X9_breaksOff.1.cls ≠ "java/lang/invoke/MethodHandle" ∧ m_X9_breaksOff.1.cls ≠ "java/lang/invoke/VarHandle" ∧ (parseMethodDescriptor m_X9_breaksOff.1.desc).map (fun q => q.parameters.length) = some 1 := by decide +kernel
def f_X9_breaksOff_60 (v0 : Nat) (v1 : Int32) (M : XM) : Option XM :=
  if x_tag M v0 = 9 + 10 then (if x_at M (x_r M v0 10) 1 v1 = true then (if (x_i M (x_r M v0 10) v1.toNatClampNeg) = (3 : Int32) then (if x_at M (x_r M v0 13) 1 v1 = true then (x_lt (x_wi M (x_r M v0 13) v1.toNatClampNeg ((x_i M (x_r M v0 13) v1.toNatClampNeg) + (1 : Int32))) (fun M38 => some M38)) else none) else (some M)) else none) else none
set_option maxRecDepth 20000 in
set_option maxHeartbeats 4000000 in
theorem t_X9_breaksOff_60 (l : Launch) {v0 : Nat} {v1 : Int32} {M : XM} {q : XM} (H : f_X9_breaksOff_60 v0 v1 M = some q) : AW l m_X9_breaksOff 2 0 0 (x_Rv q) 0 0 60 [some (.ref v0), some (.int v1)] [] M := by
  unfold f_X9_breaksOff_60 at H
  refine x_aload_n 60 0 dX9_breaksOff_60 rfl rfl ?_
  obtain ⟨h34, H⟩ := x_ckp H
  refine x_getf 61 32 9 10 (.ref (x_r M v0 10)) dX9_breaksOff_61 lk_1040 (by decide) (by decide) rfl (fun _ => rfl) h34 ?_
  refine x_iload_n 64 1 dX9_breaksOff_64 rfl rfl ?_
  obtain ⟨h35, H⟩ := x_ckp H
  refine x_iald 65 dX9_breaksOff_65 h35 ?_
  refine x_iconst 66 (3 : Int32) dX9_breaksOff_66 (by decide) ?_
  refine x_icmp_ne 67 80 dX9_breaksOff_67 (by decide) (fun c36 => ?_) (fun c36 => ?_)
  · replace H := x_ifn c36 H
    cases H
    exact x_vret 80 dX9_breaksOff_80 rfl (Nat.le_of_ble_eq_true rfl) (Nat.le_of_ble_eq_true rfl) ⟨rfl, rfl⟩
  · replace H := x_ifp c36 H
    refine x_aload_n 70 0 dX9_breaksOff_70 rfl rfl ?_
    refine x_getf 71 41 9 13 (.ref (x_r M v0 13)) dX9_breaksOff_71 lk_1043 (by decide) (by decide) rfl (fun _ => rfl) h34 ?_
    refine x_iload_n 74 1 dX9_breaksOff_74 rfl rfl ?_
    refine x_dup2 75 dX9_breaksOff_75 rfl rfl ?_
    obtain ⟨h37, H⟩ := x_ckp H
    refine x_iald 76 dX9_breaksOff_76 h37 ?_
    refine x_iconst 77 (1 : Int32) dX9_breaksOff_77 (by decide) ?_
    refine x_iadd 78 dX9_breaksOff_78 ?_
    obtain ⟨M38, w39, H⟩ := x_lt_of H
    have h40 : x_tag M38 v0 = 9 + 10 := by rw [w39]; exact h34
    have h41 : x_at M38 (x_r M v0 10) 1 v1 = true := by rw [w39]; exact h35
    have h42 : x_tag M38 (x_r M v0 10) = 1 := by rw [w39]; exact (x_at_1 h35)
    have h43 : x_at M38 (x_r M v0 13) 1 v1 = true := by rw [w39]; exact h37
    have h44 : x_tag M38 (x_r M v0 13) = 1 := by rw [w39]; exact (x_at_1 h37)
    refine x_iast' 79 dX9_breaksOff_79 h37 w39 ?_
    cases H
    exact x_vret 80 dX9_breaksOff_80 rfl (Nat.le_of_ble_eq_true rfl) (Nat.le_of_ble_eq_true rfl) ⟨rfl, rfl⟩

def f_X9_breaksOff_c29 (v0 : Nat) (v1 : Int32) (s1 : Int32) (s2 : Nat) (s0 : Int32) (M : XM) : Option XM :=
  if x_at M s2 1 s1 = true then (x_lt (x_wi M s2 s1.toNatClampNeg s0) (fun M14 => if x_tag M14 v0 = 9 + 10 then (if x_at M14 (x_r M14 v0 10) 1 v1 = true then (if (x_i M14 (x_r M14 v0 10) v1.toNatClampNeg) = (2 : Int32) then (if x_at M14 (x_r M14 v0 13) 1 v1 = true then (if x_at M14 (x_r M14 v0 11) 1 v1 = true then (x_lt (x_wi M14 (x_r M14 v0 13) v1.toNatClampNeg ((x_i M14 (x_r M14 v0 13) v1.toNatClampNeg) + ((x_i M14 (x_r M14 v0 11) v1.toNatClampNeg) + (1 : Int32)))) (fun M23 => f_X9_breaksOff_60 v0 v1 M23)) else none) else none) else (f_X9_breaksOff_60 v0 v1 M14)) else none) else none)) else none
set_option maxRecDepth 20000 in
set_option maxHeartbeats 4000000 in
theorem t_X9_breaksOff_c29 (l : Launch) {v0 : Nat} {v1 : Int32} {s1 : Int32} {s2 : Nat} {s0 : Int32} {M : XM} {q : XM} (H : f_X9_breaksOff_c29 v0 v1 s1 s2 s0 M = some q) : AW l m_X9_breaksOff 2 0 0 (x_Rv q) 0 0 32 [some (.ref v0), some (.int v1)] [(.int s0), (.int s1), (.ref s2)] M := by
  unfold f_X9_breaksOff_c29 at H
  obtain ⟨h13, H⟩ := x_ckp H
  obtain ⟨M14, w15, H⟩ := x_lt_of H
  have h16 : x_at M14 s2 1 s1 = true := by rw [w15]; exact h13
  have h17 : x_tag M14 s2 = 1 := by rw [w15]; exact (x_at_1 h13)
  refine x_iast' 32 dX9_breaksOff_32 h13 w15 ?_
  refine x_aload_n 33 0 dX9_breaksOff_33 rfl rfl ?_
  obtain ⟨h18, H⟩ := x_ckp H
  refine x_getf 34 32 9 10 (.ref (x_r M14 v0 10)) dX9_breaksOff_34 lk_1040 (by decide) (by decide) rfl (fun _ => rfl) h18 ?_
  refine x_iload_n 37 1 dX9_breaksOff_37 rfl rfl ?_
  obtain ⟨h19, H⟩ := x_ckp H
  refine x_iald 38 dX9_breaksOff_38 h19 ?_
  refine x_iconst 39 (2 : Int32) dX9_breaksOff_39 (by decide) ?_
  refine x_icmp_ne 40 60 dX9_breaksOff_40 (by decide) (fun c20 => ?_) (fun c20 => ?_)
  · replace H := x_ifn c20 H
    exact t_X9_breaksOff_60 l H
  · replace H := x_ifp c20 H
    refine x_aload_n 43 0 dX9_breaksOff_43 rfl rfl ?_
    refine x_getf 44 41 9 13 (.ref (x_r M14 v0 13)) dX9_breaksOff_44 lk_1043 (by decide) (by decide) rfl (fun _ => rfl) h18 ?_
    refine x_iload_n 47 1 dX9_breaksOff_47 rfl rfl ?_
    refine x_dup2 48 dX9_breaksOff_48 rfl rfl ?_
    obtain ⟨h21, H⟩ := x_ckp H
    refine x_iald 49 dX9_breaksOff_49 h21 ?_
    refine x_aload_n 50 0 dX9_breaksOff_50 rfl rfl ?_
    refine x_getf 51 35 9 11 (.ref (x_r M14 v0 11)) dX9_breaksOff_51 lk_1041 (by decide) (by decide) rfl (fun _ => rfl) h18 ?_
    refine x_iload_n 54 1 dX9_breaksOff_54 rfl rfl ?_
    obtain ⟨h22, H⟩ := x_ckp H
    refine x_iald 55 dX9_breaksOff_55 h22 ?_
    refine x_iconst 56 (1 : Int32) dX9_breaksOff_56 (by decide) ?_
    refine x_iadd 57 dX9_breaksOff_57 ?_
    refine x_iadd 58 dX9_breaksOff_58 ?_
    obtain ⟨M23, w24, H⟩ := x_lt_of H
    have h25 : x_at M23 s2 1 s1 = true := by rw [w24]; exact h16
    have h26 : x_tag M23 s2 = 1 := by rw [w24]; exact h17
    have h27 : x_tag M23 v0 = 9 + 10 := by rw [w24]; exact h18
    have h28 : x_at M23 (x_r M14 v0 10) 1 v1 = true := by rw [w24]; exact h19
    have h29 : x_tag M23 (x_r M14 v0 10) = 1 := by rw [w24]; exact (x_at_1 h19)
    have h30 : x_at M23 (x_r M14 v0 13) 1 v1 = true := by rw [w24]; exact h21
    have h31 : x_tag M23 (x_r M14 v0 13) = 1 := by rw [w24]; exact (x_at_1 h21)
    have h32 : x_at M23 (x_r M14 v0 11) 1 v1 = true := by rw [w24]; exact h22
    have h33 : x_tag M23 (x_r M14 v0 11) = 1 := by rw [w24]; exact (x_at_1 h22)
    refine x_iast' 59 dX9_breaksOff_59 h21 w24 ?_
    exact t_X9_breaksOff_60 l H

def f_X9_breaksOff (v0 : Nat) (v1 : Int32) (M : XM) : Option XM :=
  if x_tag M v0 = 9 + 10 then (if x_at M (x_r M v0 14) 1 v1 = true then (x_lt (x_wi M (x_r M v0 14) v1.toNatClampNeg ((x_i M (x_r M v0 14) v1.toNatClampNeg) + (1 : Int32))) (fun M3 => if x_at M3 (x_r M3 v0 12) 1 v1 = true then (if x_at M3 (x_r M3 v0 14) 1 v1 = true then (x_bd (f_X9_left v0 v1 (x_i M3 (x_r M3 v0 12) v1.toNatClampNeg) (x_i M3 (x_r M3 v0 14) v1.toNatClampNeg) M3) (f_X9_breaksOff_c29 v0 v1 v1 (x_r M3 v0 12))) else none) else none)) else none) else none
set_option maxRecDepth 20000 in
set_option maxHeartbeats 4000000 in
theorem t_X9_breaksOff (l : Launch) {v0 : Nat} {v1 : Int32} {M : XM} {q : XM} (H : f_X9_breaksOff v0 v1 M = some q) : AW l m_X9_breaksOff 2 0 0 (x_Rv q) 0 0 0 [some (.ref v0), some (.int v1)] [] M := by
  unfold f_X9_breaksOff at H
  refine x_aload_n 0 0 dX9_breaksOff_0 rfl rfl ?_
  obtain ⟨h1, H⟩ := x_ckp H
  refine x_getf 1 44 9 14 (.ref (x_r M v0 14)) dX9_breaksOff_1 lk_1044 (by decide) (by decide) rfl (fun _ => rfl) h1 ?_
  refine x_iload_n 4 1 dX9_breaksOff_4 rfl rfl ?_
  refine x_dup2 5 dX9_breaksOff_5 rfl rfl ?_
  obtain ⟨h2, H⟩ := x_ckp H
  refine x_iald 6 dX9_breaksOff_6 h2 ?_
  refine x_iconst 7 (1 : Int32) dX9_breaksOff_7 (by decide) ?_
  refine x_iadd 8 dX9_breaksOff_8 ?_
  obtain ⟨M3, w4, H⟩ := x_lt_of H
  have h5 : x_tag M3 v0 = 9 + 10 := by rw [w4]; exact h1
  have h6 : x_at M3 (x_r M v0 14) 1 v1 = true := by rw [w4]; exact h2
  have h7 : x_tag M3 (x_r M v0 14) = 1 := by rw [w4]; exact (x_at_1 h2)
  refine x_iast' 9 dX9_breaksOff_9 h2 w4 ?_
  refine x_aload_n 10 0 dX9_breaksOff_10 rfl rfl ?_
  refine x_getf 11 38 9 12 (.ref (x_r M3 v0 12)) dX9_breaksOff_11 lk_1042 (by decide) (by decide) rfl (fun _ => rfl) h5 ?_
  refine x_iload_n 14 1 dX9_breaksOff_14 rfl rfl ?_
  refine x_aload_n 15 0 dX9_breaksOff_15 rfl rfl ?_
  refine x_iload_n 16 1 dX9_breaksOff_16 rfl rfl ?_
  refine x_aload_n 17 0 dX9_breaksOff_17 rfl rfl ?_
  refine x_getf 18 38 9 12 (.ref (x_r M3 v0 12)) dX9_breaksOff_18 lk_1042 (by decide) (by decide) rfl (fun _ => rfl) h5 ?_
  refine x_iload_n 21 1 dX9_breaksOff_21 rfl rfl ?_
  obtain ⟨h8, H⟩ := x_ckp H
  refine x_iald 22 dX9_breaksOff_22 h8 ?_
  refine x_aload_n 23 0 dX9_breaksOff_23 rfl rfl ?_
  refine x_getf 24 44 9 14 (.ref (x_r M3 v0 14)) dX9_breaksOff_24 lk_1044 (by decide) (by decide) rfl (fun _ => rfl) h5 ?_
  refine x_iload_n 27 1 dX9_breaksOff_27 rfl rfl ?_
  obtain ⟨h9, H⟩ := x_ckp H
  refine x_iald 28 dX9_breaksOff_28 h9 ?_
  obtain ⟨r11, M10, e12, H⟩ := x_bd_of H
  refine x_callV 29 183 9 [(.int v1), (.int (x_i M3 (x_r M3 v0 12) v1.toNatClampNeg)), (.int (x_i M3 (x_r M3 v0 14) v1.toNatClampNeg))] [(.int v1), (.ref (x_r M3 v0 12))] dX9_breaksOff_29 (ct_X9_left l e12) lk_1273 lk_1275 lk_53 (by decide) h5 lk_94 lk_1276 ⟨cn_X9_left, (by decide), by decide⟩ rfl (Nat.le_of_ble_eq_true rfl) (Nat.le_of_ble_eq_true rfl) (Nat.le_of_ble_eq_true rfl) (x_ri ?_)
  exact t_X9_breaksOff_c29 l H

theorem ct_X9_breaksOff (l : Launch) {v0 : Nat} {v1 : Int32} {M : XM} {q : XM} (H : f_X9_breaksOff v0 v1 M = some q) : Ct l m_X9_breaksOff 2 0 0 [(.ref v0), (.int v1)] M (x_Rv q) := x_met l m_X9_breaksOff 2 0 0 [(.ref v0), (.int v1)] M (x_Rv q) _ rfl rfl (Nat.le_of_ble_eq_true rfl) (t_X9_breaksOff l H)
theorem lk_1272 : Cond.code yX9_breaksOff cX9_breaksOff 2 none ∈ x_TB := x_tb (k := 1272) (by decide +kernel) rfl
theorem lk_1269 : Cond.methodLink RX9 163 yX9_breaksOff ∈ x_TB := x_tb (k := 1269) (by decide +kernel) rfl
theorem lk_52 : Cond.selects RX9 yX9_breaksOff yX9_breaksOff ∈ x_TB := x_tb (k := 52) (by decide +kernel) rfl
theorem lk_1271 : Cond.instanceMethod yX9_breaksOff ∈ x_TB := x_tb (k := 1271) (by decide +kernel) rfl
theorem lk_1212 : Cond.code yX9_ask cX9_ask 4 (some .int) ∈ x_TB := x_tb (k := 1212) (by decide +kernel) rfl
theorem lk_1277 : Cond.methodLink RX9 166 yX9_ask ∈ x_TB := x_tb (k := 1277) (by decide +kernel) rfl
theorem lk_1211 : Cond.selects RX9 yX9_ask yX9_ask ∈ x_TB := x_tb (k := 1211) (by decide +kernel) rfl
theorem lk_1210 : Cond.instanceMethod yX9_ask ∈ x_TB := x_tb (k := 1210) (by decide +kernel) rfl
theorem lk_1260 : Cond.code yX9_number cX9_number 2 (some .boolean) ∈ x_TB := x_tb (k := 1260) (by decide +kernel) rfl
theorem lk_1257 : Cond.methodLink RX9 157 yX9_number ∈ x_TB := x_tb (k := 1257) (by decide +kernel) rfl
theorem lk_49 : Cond.selects RX9 yX9_number yX9_number ∈ x_TB := x_tb (k := 49) (by decide +kernel) rfl
theorem lk_1259 : Cond.instanceMethod yX9_number ∈ x_TB := x_tb (k := 1259) (by decide +kernel) rfl
theorem lk_1268 : Cond.code yX9_isSo cX9_isSo 3 (some .boolean) ∈ x_TB := x_tb (k := 1268) (by decide +kernel) rfl
theorem lk_1265 : Cond.methodLink RX9 160 yX9_isSo ∈ x_TB := x_tb (k := 1265) (by decide +kernel) rfl
theorem lk_51 : Cond.selects RX9 yX9_isSo yX9_isSo ∈ x_TB := x_tb (k := 51) (by decide +kernel) rfl
theorem lk_1267 : Cond.instanceMethod yX9_isSo ∈ x_TB := x_tb (k := 1267) (by decide +kernel) rfl
abbrev m_X9_item : XU := (yX9_item, cX9_item, 4, (some .boolean))
theorem cn_X9_item : m_X9_item.1.cls ≠ "java/lang/invoke/MethodHandle" ∧ m_X9_item.1.cls ≠ "java/lang/invoke/VarHandle" ∧ (parseMethodDescriptor m_X9_item.1.desc).map (fun q => q.parameters.length) = some 0 := by decide +kernel
def f_X9_item_c141 (κ57 : Nat → Int32 → Int32 → XM → Option (Int32 × XM)) (v0 : Nat) (v1 : Int32) (v2 : Int32) (v3 : Int32) (s0 : Int32) (M : XM) : Option (Int32 × XM) :=
  if s0 = 0 then (if x_tag M v0 = 9 + 10 then (x_bd (f_X9_wrong v0 v3 M) (fun r67 M66 => if r67 = 0 ∨ r67 = 1 then (some (r67, M66)) else none)) else none) else (if x_tag M v0 = 9 + 10 then (if x_at M (x_r M v0 23) 1 v2 = true then (x_lt (x_wi M (x_r M v0 23) v2.toNatClampNeg (x_i M v0 27)) (fun M72 => κ57 v0 v1 (v2 + (1 : Int32)) M72)) else none) else none)
set_option maxRecDepth 20000 in
set_option maxHeartbeats 4000000 in
theorem t_X9_item_c141 (l : Launch) {κ57 : Nat → Int32 → Int32 → XM → Option (Int32 × XM)} {v0 : Nat} {v1 : Int32} {v2 : Int32} {v3 : Int32} {s0 : Int32} {M : XM} {q : Int32 × XM} (hκ57 : ∀ (v0 : Nat) (v1 : Int32) (v2 : Int32) (M : XM), κ57 v0 v1 v2 M = some q → AW l m_X9_item 3 0 0 (x_Ri q) 0 0 57 [some (.ref v0), some (.int v1), some (.int v2), none] [] M) (H : f_X9_item_c141 κ57 v0 v1 v2 v3 s0 M = some q) : AW l m_X9_item 3 0 0 (x_Ri q) 0 0 144 [some (.ref v0), some (.int v1), some (.int v2), some (.int v3)] [(.int s0)] M := by
  unfold f_X9_item_c141 at H
  refine x_if_ne 144 153 dX9_item_144 (by decide) (fun c64 => ?_) (fun c64 => ?_)
  · replace H := x_ifn c64 H
    refine x_aload_n 153 0 dX9_item_153 rfl rfl ?_
    obtain ⟨h70, H⟩ := x_ckp H
    refine x_getf 154 72 9 23 (.ref (x_r M v0 23)) dX9_item_154 lk_1053 (by decide) (by decide) rfl (fun _ => rfl) h70 ?_
    refine x_iload_n 157 2 dX9_item_157 rfl rfl ?_
    refine x_aload_n 158 0 dX9_item_158 rfl rfl ?_
    refine x_getf 159 137 9 27 (.int (x_i M v0 27)) dX9_item_159 lk_1057 (by decide) (by decide) rfl (fun _ => rfl) h70 ?_
    obtain ⟨h71, H⟩ := x_ckp H
    obtain ⟨M72, w73, H⟩ := x_lt_of H
    have h74 : x_tag M72 v0 = 9 + 10 := by rw [w73]; exact h70
    have h75 : x_at M72 (x_r M v0 23) 1 v2 = true := by rw [w73]; exact h71
    have h76 : x_tag M72 (x_r M v0 23) = 1 := by rw [w73]; exact (x_at_1 h71)
    refine x_iast' 162 dX9_item_162 h71 w73 ?_
    refine x_iinc 163 2 (v2 + (1 : Int32)) [some (.ref v0), some (.int v1), some (.int (v2 + (1 : Int32))), some (.int v3)] dX9_item_163 rfl (congrArg (fun z : Int32 => v2 + z) (show Int32.ofInt (1) = (1 : Int32) by decide)) rfl (Nat.le_of_ble_eq_true rfl) rfl ?_
    refine x_goto 166 57 dX9_item_166 (by decide) ?_
    exact x_wk (le_s (le_s (le_s (le_n le_0)))) (hκ57 _ _ _ _ H)
  · replace H := x_ifp c64 H
    refine x_aload_n 147 0 dX9_item_147 rfl rfl ?_
    refine x_iload_n 148 3 dX9_item_148 rfl rfl ?_
    obtain ⟨h65, H⟩ := x_ckp H
    obtain ⟨r67, M66, e68, H⟩ := x_bd_of H
    refine x_callV 149 144 9 [(.int v3)] [] dX9_item_149 (ct_X9_wrong l e68) lk_1249 lk_1251 lk_47 (by decide) h65 lk_94 lk_1252 ⟨cn_X9_wrong, (by decide), by decide⟩ rfl (Nat.le_of_ble_eq_true rfl) (Nat.le_of_ble_eq_true rfl) (Nat.le_of_ble_eq_true rfl) (x_ri ?_)
    obtain ⟨h69, H⟩ := x_ckp H
    cases H
    exact x_iret 152 dX9_item_152 .boolean rfl (x_narZ h69) (Nat.le_of_ble_eq_true rfl) (Nat.le_of_ble_eq_true rfl) ⟨rfl, rfl⟩

def f_X9_item_c130 (κ57 : Nat → Int32 → Int32 → XM → Option (Int32 × XM)) (v0 : Nat) (v1 : Int32) (v2 : Int32) (v3 : Int32) (s0 : Int32) (M : XM) : Option (Int32 × XM) :=
  if s0 = 0 then (some ((0 : Int32), M)) else (if x_tag M v0 = 9 + 10 then (x_bd (f_X9_isSo v0 v1 v2 M) (f_X9_item_c141 κ57 v0 v1 v2 v3)) else none)
set_option maxRecDepth 20000 in
set_option maxHeartbeats 4000000 in
theorem t_X9_item_c130 (l : Launch) {κ57 : Nat → Int32 → Int32 → XM → Option (Int32 × XM)} {v0 : Nat} {v1 : Int32} {v2 : Int32} {v3 : Int32} {s0 : Int32} {M : XM} {q : Int32 × XM} (hκ57 : ∀ (v0 : Nat) (v1 : Int32) (v2 : Int32) (M : XM), κ57 v0 v1 v2 M = some q → AW l m_X9_item 3 0 0 (x_Ri q) 0 0 57 [some (.ref v0), some (.int v1), some (.int v2), none] [] M) (H : f_X9_item_c130 κ57 v0 v1 v2 v3 s0 M = some q) : AW l m_X9_item 3 0 0 (x_Ri q) 0 0 133 [some (.ref v0), some (.int v1), some (.int v2), some (.int v3)] [(.int s0)] M := by
  unfold f_X9_item_c130 at H
  refine x_if_ne 133 138 dX9_item_133 (by decide) (fun c59 => ?_) (fun c59 => ?_)
  · replace H := x_ifn c59 H
    refine x_aload_n 138 0 dX9_item_138 rfl rfl ?_
    refine x_iload_n 139 1 dX9_item_139 rfl rfl ?_
    refine x_iload_n 140 2 dX9_item_140 rfl rfl ?_
    obtain ⟨h60, H⟩ := x_ckp H
    obtain ⟨r62, M61, e63, H⟩ := x_bd_of H
    refine x_callV 141 160 9 [(.int v1), (.int v2)] [] dX9_item_141 (ct_X9_isSo l e63) lk_1265 lk_1267 lk_51 (by decide) h60 lk_94 lk_1268 ⟨cn_X9_isSo, (by decide), by decide⟩ rfl (Nat.le_of_ble_eq_true rfl) (Nat.le_of_ble_eq_true rfl) (Nat.le_of_ble_eq_true rfl) (x_ri ?_)
    exact t_X9_item_c141 l hκ57 H
  · replace H := x_ifp c59 H
    refine x_iconst 136 (0 : Int32) dX9_item_136 (by decide) ?_
    cases H
    exact x_iret 137 dX9_item_137 .boolean rfl rfl (Nat.le_of_ble_eq_true rfl) (Nat.le_of_ble_eq_true rfl) ⟨rfl, rfl⟩

def f_X9_item_124 (κ57 : Nat → Int32 → Int32 → XM → Option (Int32 × XM)) (v0 : Nat) (v1 : Int32) (v2 : Int32) (M : XM) : Option (Int32 × XM) :=
  if x_tag M v0 = 9 + 10 then (x_bd (f_X9_number v0 M) (f_X9_item_c130 κ57 v0 v1 v2 (x_i M v0 25))) else none
set_option maxRecDepth 20000 in
set_option maxHeartbeats 4000000 in
theorem t_X9_item_124 (l : Launch) {κ57 : Nat → Int32 → Int32 → XM → Option (Int32 × XM)} {v0 : Nat} {v1 : Int32} {v2 : Int32} {M : XM} {q : Int32 × XM} (hκ57 : ∀ (v0 : Nat) (v1 : Int32) (v2 : Int32) (M : XM), κ57 v0 v1 v2 M = some q → AW l m_X9_item 3 0 0 (x_Ri q) 0 0 57 [some (.ref v0), some (.int v1), some (.int v2), none] [] M) (H : f_X9_item_124 κ57 v0 v1 v2 M = some q) : AW l m_X9_item 3 0 0 (x_Ri q) 0 0 124 [some (.ref v0), some (.int v1), some (.int v2), none] [] M := by
  unfold f_X9_item_124 at H
  refine x_aload_n 124 0 dX9_item_124 rfl rfl ?_
  obtain ⟨h55, H⟩ := x_ckp H
  refine x_getf 125 128 9 25 (.int (x_i M v0 25)) dX9_item_125 lk_1055 (by decide) (by decide) rfl (fun _ => rfl) h55 ?_
  refine x_istore_n 128 3 [some (.ref v0), some (.int v1), some (.int v2), some (.int (x_i M v0 25))] dX9_item_128 rfl rfl (Nat.le_of_ble_eq_true rfl) rfl ?_
  refine x_aload_n 129 0 dX9_item_129 rfl rfl ?_
  obtain ⟨r57, M56, e58, H⟩ := x_bd_of H
  refine x_callV 130 157 9 [] [] dX9_item_130 (ct_X9_number l e58) lk_1257 lk_1259 lk_49 (by decide) h55 lk_94 lk_1260 ⟨cn_X9_number, (by decide), by decide⟩ rfl (Nat.le_of_ble_eq_true rfl) (Nat.le_of_ble_eq_true rfl) (Nat.le_of_ble_eq_true rfl) (x_ri ?_)
  exact t_X9_item_c130 l hκ57 H

def f_X9_item_105 (v0 : Nat) (M : XM) : Option (Int32 × XM) :=
  if x_tag M v0 = 9 + 10 then (x_bd (f_X9_wrong v0 (x_i M v0 25) M) (fun r81 M80 => if r81 = 0 ∨ r81 = 1 then (some (r81, M80)) else none)) else none
set_option maxRecDepth 20000 in
set_option maxHeartbeats 4000000 in
theorem t_X9_item_105 (l : Launch) {v0 : Nat} {M : XM} {q : Int32 × XM} (H : f_X9_item_105 v0 M = some q) : AW l m_X9_item 3 0 0 (x_Ri q) 0 0 105 [some (.ref v0), none, none, none] [] M := by
  unfold f_X9_item_105 at H
  refine x_aload_n 105 0 dX9_item_105 rfl rfl ?_
  refine x_aload_n 106 0 dX9_item_106 rfl rfl ?_
  obtain ⟨h79, H⟩ := x_ckp H
  refine x_getf 107 128 9 25 (.int (x_i M v0 25)) dX9_item_107 lk_1055 (by decide) (by decide) rfl (fun _ => rfl) h79 ?_
  obtain ⟨r81, M80, e82, H⟩ := x_bd_of H
  refine x_callV 110 144 9 [(.int (x_i M v0 25))] [] dX9_item_110 (ct_X9_wrong l e82) lk_1249 lk_1251 lk_47 (by decide) h79 lk_94 lk_1252 ⟨cn_X9_wrong, (by decide), by decide⟩ rfl (Nat.le_of_ble_eq_true rfl) (Nat.le_of_ble_eq_true rfl) (Nat.le_of_ble_eq_true rfl) (x_ri ?_)
  obtain ⟨h83, H⟩ := x_ckp H
  cases H
  exact x_iret 113 dX9_item_113 .boolean rfl (x_narZ h83) (Nat.le_of_ble_eq_true rfl) (Nat.le_of_ble_eq_true rfl) ⟨rfl, rfl⟩

def f_X9_item_67 (κ57 : Nat → Int32 → Int32 → XM → Option (Int32 × XM)) (v0 : Nat) (v1 : Int32) (v2 : Int32) (s0 : Int32) (s1 : Int32) (M : XM) : Option (Int32 × XM) :=
  if s0 ≤ s1 then (if v1 = (0 : Int32) then (if x_tag M v0 = 9 + 10 then (if x_at M (x_r M v0 23) 1 (0 : Int32) = true then (if x_at M (x_r M v0 23) 1 (1 : Int32) = true then (x_bd (f_X9_adds v0 (x_i M (x_r M v0 23) (0 : Int32).toNatClampNeg) (x_i M (x_r M v0 23) (1 : Int32).toNatClampNeg) M) (fun r23 M22 => some ((1 : Int32), M22))) else none) else none) else none) else if v1 = (5 : Int32) then (if x_tag M v0 = 9 + 10 then (if x_at M (x_r M v0 23) 1 (0 : Int32) = true then (if x_at M (x_r M v0 15) 1 (x_i M v0 6) = true then (x_lt (x_wi M (x_r M v0 15) (x_i M v0 6).toNatClampNeg (x_i M (x_r M v0 23) (0 : Int32).toNatClampNeg)) (fun M29 => x_lt (x_wi M29 v0 6 ((x_i M29 v0 6) + (1 : Int32))) (fun M36 => some ((1 : Int32), M36)))) else none) else none) else none) else if v1 = (6 : Int32) then (if x_tag M v0 = 9 + 10 then (if x_at M (x_r M v0 23) 1 (0 : Int32) = true then (x_bv (f_X9_breaksOff v0 (x_i M (x_r M v0 23) (0 : Int32).toNatClampNeg) M) (fun M46 => some ((1 : Int32), M46))) else none) else none) else if x_tag M v0 = 9 + 10 then (if x_at M (x_r M v0 23) 1 (0 : Int32) = true then (x_bd (f_X9_ask v0 (v1 - (1 : Int32)) (x_i M (x_r M v0 23) (0 : Int32).toNatClampNeg) M) (fun r52 M51 => some ((1 : Int32), M51))) else none) else none) else (if v2 ≤ 0 then (f_X9_item_124 κ57 v0 v1 v2 M) else (if x_tag M v0 = 9 + 10 then (if (x_i M v0 26) ≤ (x_i M v0 25) then (f_X9_item_105 v0 M) else (if x_at M (x_r M v0 20) 2 ((x_i M v0 24) + (x_i M v0 25)) = true then (if ((x_j M (x_r M v0 20) ((x_i M v0 24) + (x_i M v0 25)).toNatClampNeg).toInt32) = (32 : Int32) then (x_lt (x_wi M v0 25 ((x_i M v0 25) + (1 : Int32))) (fun M86 => f_X9_item_124 κ57 v0 v1 v2 M86)) else (f_X9_item_105 v0 M)) else none)) else none))
set_option maxRecDepth 20000 in
set_option maxHeartbeats 4000000 in
theorem t_X9_item_67 (l : Launch) {κ57 : Nat → Int32 → Int32 → XM → Option (Int32 × XM)} {v0 : Nat} {v1 : Int32} {v2 : Int32} {s0 : Int32} {s1 : Int32} {M : XM} {q : Int32 × XM} (hκ57 : ∀ (v0 : Nat) (v1 : Int32) (v2 : Int32) (M : XM), κ57 v0 v1 v2 M = some q → AW l m_X9_item 3 0 0 (x_Ri q) 0 0 57 [some (.ref v0), some (.int v1), some (.int v2), none] [] M) (H : f_X9_item_67 κ57 v0 v1 v2 s0 s1 M = some q) : AW l m_X9_item 3 0 0 (x_Ri q) 0 0 67 [some (.ref v0), some (.int v1), some (.int v2), none] [(.int s0), (.int s1)] M := by
  unfold f_X9_item_67 at H
  refine x_icmp_ge 67 169 dX9_item_67 (by decide) (fun c17 => ?_) (fun c17 => ?_)
  · replace H := x_ifp c17 H
    refine x_iload_n 169 1 dX9_item_169 rfl rfl ?_
    by_cases c18 : v1 = (0 : Int32)
    · replace H := x_ifp c18 H
      refine x_lookup (off := 34) 170 204 dX9_item_170 (by decide) (by rw [c18]; rfl) (by decide) ?_
      refine x_aload_n 204 0 dX9_item_204 rfl rfl ?_
      refine x_aload_n 205 0 dX9_item_205 rfl rfl ?_
      obtain ⟨h19, H⟩ := x_ckp H
      refine x_getf 206 72 9 23 (.ref (x_r M v0 23)) dX9_item_206 lk_1053 (by decide) (by decide) rfl (fun _ => rfl) h19 ?_
      refine x_iconst 209 (0 : Int32) dX9_item_209 (by decide) ?_
      obtain ⟨h20, H⟩ := x_ckp H
      refine x_iald 210 dX9_item_210 h20 ?_
      refine x_aload_n 211 0 dX9_item_211 rfl rfl ?_
      refine x_getf 212 72 9 23 (.ref (x_r M v0 23)) dX9_item_212 lk_1053 (by decide) (by decide) rfl (fun _ => rfl) h19 ?_
      refine x_iconst 215 (1 : Int32) dX9_item_215 (by decide) ?_
      obtain ⟨h21, H⟩ := x_ckp H
      refine x_iald 216 dX9_item_216 h21 ?_
      obtain ⟨r23, M22, e24, H⟩ := x_bd_of H
      refine x_callV 217 114 9 [(.int (x_i M (x_r M v0 23) (0 : Int32).toNatClampNeg)), (.int (x_i M (x_r M v0 23) (1 : Int32).toNatClampNeg))] [] dX9_item_217 (ct_X9_adds l e24) lk_1201 lk_1203 lk_39 (by decide) h19 lk_94 lk_1204 ⟨cn_X9_adds, (by decide), by decide⟩ rfl (Nat.le_of_ble_eq_true rfl) (Nat.le_of_ble_eq_true rfl) (Nat.le_of_ble_eq_true rfl) (x_ri ?_)
      refine x_pop 220 dX9_item_220 rfl ?_
      refine x_goto 221 279 dX9_item_221 (by decide) ?_
      refine x_iconst 279 (1 : Int32) dX9_item_279 (by decide) ?_
      cases H
      exact x_iret 280 dX9_item_280 .boolean rfl rfl (Nat.le_of_ble_eq_true rfl) (Nat.le_of_ble_eq_true rfl) ⟨rfl, rfl⟩
    · replace H := x_ifn c18 H
      by_cases c25 : v1 = (5 : Int32)
      · replace H := x_ifp c25 H
        refine x_lookup (off := 54) 170 224 dX9_item_170 (by decide) (by rw [c25]; rfl) (by decide) ?_
        refine x_aload_n 224 0 dX9_item_224 rfl rfl ?_
        obtain ⟨h26, H⟩ := x_ckp H
        refine x_getf 225 47 9 15 (.ref (x_r M v0 15)) dX9_item_225 lk_1045 (by decide) (by decide) rfl (fun _ => rfl) h26 ?_
        refine x_aload_n 228 0 dX9_item_228 rfl rfl ?_
        refine x_getf 229 150 9 6 (.int (x_i M v0 6)) dX9_item_229 lk_1036 (by decide) (by decide) rfl (fun _ => rfl) h26 ?_
        refine x_aload_n 232 0 dX9_item_232 rfl rfl ?_
        refine x_getf 233 72 9 23 (.ref (x_r M v0 23)) dX9_item_233 lk_1053 (by decide) (by decide) rfl (fun _ => rfl) h26 ?_
        refine x_iconst 236 (0 : Int32) dX9_item_236 (by decide) ?_
        obtain ⟨h27, H⟩ := x_ckp H
        refine x_iald 237 dX9_item_237 h27 ?_
        obtain ⟨h28, H⟩ := x_ckp H
        obtain ⟨M29, w30, H⟩ := x_lt_of H
        have h31 : x_tag M29 v0 = 9 + 10 := by rw [w30]; exact h26
        have h32 : x_at M29 (x_r M v0 23) 1 (0 : Int32) = true := by rw [w30]; exact h27
        have h33 : x_tag M29 (x_r M v0 23) = 1 := by rw [w30]; exact (x_at_1 h27)
        have h34 : x_at M29 (x_r M v0 15) 1 (x_i M v0 6) = true := by rw [w30]; exact h28
        have h35 : x_tag M29 (x_r M v0 15) = 1 := by rw [w30]; exact (x_at_1 h28)
        refine x_iast' 238 dX9_item_238 h28 w30 ?_
        refine x_aload_n 239 0 dX9_item_239 rfl rfl ?_
        refine x_dup 240 dX9_item_240 rfl ?_
        refine x_getf 241 150 9 6 (.int (x_i M29 v0 6)) dX9_item_241 lk_1036 (by decide) (by decide) rfl (fun _ => rfl) h31 ?_
        refine x_iconst 244 (1 : Int32) dX9_item_244 (by decide) ?_
        refine x_iadd 245 dX9_item_245 ?_
        obtain ⟨M36, w37, H⟩ := x_lt_of H
        have h38 : x_tag M36 v0 = 9 + 10 := by rw [w37]; exact h31
        have h39 : x_at M36 (x_r M v0 23) 1 (0 : Int32) = true := by rw [w37]; exact h32
        have h40 : x_tag M36 (x_r M v0 23) = 1 := by rw [w37]; exact h33
        have h41 : x_at M36 (x_r M v0 15) 1 (x_i M v0 6) = true := by rw [w37]; exact h34
        have h42 : x_tag M36 (x_r M v0 15) = 1 := by rw [w37]; exact h35
        refine x_putI' 246 150 9 6 dX9_item_246 lk_1036 (by decide) (by decide) rfl (Or.inl rfl) (Or.inl rfl) h31 w37 ?_
        refine x_goto 249 279 dX9_item_249 (by decide) ?_
        refine x_iconst 279 (1 : Int32) dX9_item_279 (by decide) ?_
        cases H
        exact x_iret 280 dX9_item_280 .boolean rfl rfl (Nat.le_of_ble_eq_true rfl) (Nat.le_of_ble_eq_true rfl) ⟨rfl, rfl⟩
      · replace H := x_ifn c25 H
        by_cases c43 : v1 = (6 : Int32)
        · replace H := x_ifp c43 H
          refine x_lookup (off := 82) 170 252 dX9_item_170 (by decide) (by rw [c43]; rfl) (by decide) ?_
          refine x_aload_n 252 0 dX9_item_252 rfl rfl ?_
          refine x_aload_n 253 0 dX9_item_253 rfl rfl ?_
          obtain ⟨h44, H⟩ := x_ckp H
          refine x_getf 254 72 9 23 (.ref (x_r M v0 23)) dX9_item_254 lk_1053 (by decide) (by decide) rfl (fun _ => rfl) h44 ?_
          refine x_iconst 257 (0 : Int32) dX9_item_257 (by decide) ?_
          obtain ⟨h45, H⟩ := x_ckp H
          refine x_iald 258 dX9_item_258 h45 ?_
          obtain ⟨M46, e48, H⟩ := x_bv_of H
          refine x_callV 259 163 9 [(.int (x_i M (x_r M v0 23) (0 : Int32).toNatClampNeg))] [] dX9_item_259 (ct_X9_breaksOff l e48) lk_1269 lk_1271 lk_52 (by decide) h44 lk_94 lk_1272 ⟨cn_X9_breaksOff, (by decide), by decide⟩ rfl (Nat.le_of_ble_eq_true rfl) (Nat.le_of_ble_eq_true rfl) (Nat.le_of_ble_eq_true rfl) (x_rv ?_)
          refine x_goto 262 279 dX9_item_262 (by decide) ?_
          refine x_iconst 279 (1 : Int32) dX9_item_279 (by decide) ?_
          cases H
          exact x_iret 280 dX9_item_280 .boolean rfl rfl (Nat.le_of_ble_eq_true rfl) (Nat.le_of_ble_eq_true rfl) ⟨rfl, rfl⟩
        · replace H := x_ifn c43 H
          refine x_lookup (off := 95) 170 265 dX9_item_170 (by decide) (by show Op.lookupswitch.offset [(0, 34), (5, 54), (6, 82)] 95 _ = _; rw [lv_osw c18 (by decide), lv_osw c25 (by decide), lv_osw c43 (by decide)]; rfl) (by decide) ?_
          refine x_aload_n 265 0 dX9_item_265 rfl rfl ?_
          refine x_iload_n 266 1 dX9_item_266 rfl rfl ?_
          refine x_iconst 267 (1 : Int32) dX9_item_267 (by decide) ?_
          refine x_isub 268 dX9_item_268 ?_
          refine x_aload_n 269 0 dX9_item_269 rfl rfl ?_
          obtain ⟨h49, H⟩ := x_ckp H
          refine x_getf 270 72 9 23 (.ref (x_r M v0 23)) dX9_item_270 lk_1053 (by decide) (by decide) rfl (fun _ => rfl) h49 ?_
          refine x_iconst 273 (0 : Int32) dX9_item_273 (by decide) ?_
          obtain ⟨h50, H⟩ := x_ckp H
          refine x_iald 274 dX9_item_274 h50 ?_
          obtain ⟨r52, M51, e53, H⟩ := x_bd_of H
          refine x_callV 275 166 9 [(.int (v1 - (1 : Int32))), (.int (x_i M (x_r M v0 23) (0 : Int32).toNatClampNeg))] [] dX9_item_275 (ct_X9_ask l e53) lk_1277 lk_1210 lk_1211 (by decide) h49 lk_94 lk_1212 ⟨cn_X9_ask, (by decide), by decide⟩ rfl (Nat.le_of_ble_eq_true rfl) (Nat.le_of_ble_eq_true rfl) (Nat.le_of_ble_eq_true rfl) (x_ri ?_)
          refine x_pop 278 dX9_item_278 rfl ?_
          refine x_iconst 279 (1 : Int32) dX9_item_279 (by decide) ?_
          cases H
          exact x_iret 280 dX9_item_280 .boolean rfl rfl (Nat.le_of_ble_eq_true rfl) (Nat.le_of_ble_eq_true rfl) ⟨rfl, rfl⟩
  · replace H := x_ifn c17 H
    refine x_iload_n 70 2 dX9_item_70 rfl rfl ?_
    refine x_if_le 71 124 dX9_item_71 (by decide) (fun c54 => ?_) (fun c54 => ?_)
    · replace H := x_ifp c54 H
      exact t_X9_item_124 l hκ57 H
    · replace H := x_ifn c54 H
      refine x_aload_n 74 0 dX9_item_74 rfl rfl ?_
      obtain ⟨h77, H⟩ := x_ckp H
      refine x_getf 75 128 9 25 (.int (x_i M v0 25)) dX9_item_75 lk_1055 (by decide) (by decide) rfl (fun _ => rfl) h77 ?_
      refine x_aload_n 78 0 dX9_item_78 rfl rfl ?_
      refine x_getf 79 131 9 26 (.int (x_i M v0 26)) dX9_item_79 lk_1056 (by decide) (by decide) rfl (fun _ => rfl) h77 ?_
      refine x_icmp_ge 82 105 dX9_item_82 (by decide) (fun c78 => ?_) (fun c78 => ?_)
      · replace H := x_ifp c78 H
        exact x_wk (le_s (le_n (le_n (le_s le_0)))) (t_X9_item_105 l H)
      · replace H := x_ifn c78 H
        refine x_aload_n 85 0 dX9_item_85 rfl rfl ?_
        refine x_getf 86 62 9 20 (.ref (x_r M v0 20)) dX9_item_86 lk_1050 (by decide) (by decide) rfl (fun _ => rfl) h77 ?_
        refine x_aload_n 89 0 dX9_item_89 rfl rfl ?_
        refine x_getf 90 134 9 24 (.int (x_i M v0 24)) dX9_item_90 lk_1054 (by decide) (by decide) rfl (fun _ => rfl) h77 ?_
        refine x_aload_n 93 0 dX9_item_93 rfl rfl ?_
        refine x_getf 94 128 9 25 (.int (x_i M v0 25)) dX9_item_94 lk_1055 (by decide) (by decide) rfl (fun _ => rfl) h77 ?_
        refine x_iadd 97 dX9_item_97 ?_
        obtain ⟨h84, H⟩ := x_ckp H
        refine x_lald 98 dX9_item_98 h84 ?_
        refine x_l2i 99 dX9_item_99 ?_
        refine x_bipush 100 (32 : Int32) dX9_item_100 (by decide) ?_
        refine x_icmp_eq 102 114 dX9_item_102 (by decide) (fun c85 => ?_) (fun c85 => ?_)
        · replace H := x_ifp c85 H
          refine x_aload_n 114 0 dX9_item_114 rfl rfl ?_
          refine x_dup 115 dX9_item_115 rfl ?_
          refine x_getf 116 128 9 25 (.int (x_i M v0 25)) dX9_item_116 lk_1055 (by decide) (by decide) rfl (fun _ => rfl) h77 ?_
          refine x_iconst 119 (1 : Int32) dX9_item_119 (by decide) ?_
          refine x_iadd 120 dX9_item_120 ?_
          obtain ⟨M86, w87, H⟩ := x_lt_of H
          have h88 : x_tag M86 v0 = 9 + 10 := by rw [w87]; exact h77
          have h89 : x_at M86 (x_r M v0 20) 2 ((x_i M v0 24) + (x_i M v0 25)) = true := by rw [w87]; exact h84
          have h90 : x_tag M86 (x_r M v0 20) = 2 := by rw [w87]; exact (x_at_1 h84)
          refine x_putI' 121 128 9 25 dX9_item_121 lk_1055 (by decide) (by decide) rfl (Or.inl rfl) (Or.inl rfl) h77 w87 ?_
          exact t_X9_item_124 l hκ57 H
        · replace H := x_ifn c85 H
          exact x_wk (le_s (le_n (le_n (le_s le_0)))) (t_X9_item_105 l H)

def bd_X9_item_57 (κ57 : Nat → Int32 → Int32 → XM → Option (Int32 × XM)) (v0 : Nat) (v1 : Int32) (v2 : Int32) (M : XM) : Option (Int32 × XM) :=
  if v1 = 0 then (f_X9_item_67 κ57 v0 v1 v2 (2 : Int32) v2 M) else (f_X9_item_67 κ57 v0 v1 v2 (1 : Int32) v2 M)
set_option maxRecDepth 20000 in
set_option maxHeartbeats 4000000 in
theorem tb_X9_item_57 (l : Launch) {κ57 : Nat → Int32 → Int32 → XM → Option (Int32 × XM)} {v0 : Nat} {v1 : Int32} {v2 : Int32} {M : XM} {q : Int32 × XM} (hκ57 : ∀ (v0 : Nat) (v1 : Int32) (v2 : Int32) (M : XM), κ57 v0 v1 v2 M = some q → AW l m_X9_item 3 0 0 (x_Ri q) 0 0 57 [some (.ref v0), some (.int v1), some (.int v2), none] [] M) (H : bd_X9_item_57 κ57 v0 v1 v2 M = some q) : AW l m_X9_item 3 0 0 (x_Ri q) 0 0 57 [some (.ref v0), some (.int v1), some (.int v2), none] [] M := by
  unfold bd_X9_item_57 at H
  refine x_iload_n 57 2 dX9_item_57 rfl rfl ?_
  refine x_iload_n 58 1 dX9_item_58 rfl rfl ?_
  refine x_if_ne 59 66 dX9_item_59 (by decide) (fun c16 => ?_) (fun c16 => ?_)
  · replace H := x_ifn c16 H
    refine x_iconst 66 (1 : Int32) dX9_item_66 (by decide) ?_
    exact t_X9_item_67 l hκ57 H
  · replace H := x_ifp c16 H
    refine x_iconst 62 (2 : Int32) dX9_item_62 (by decide) ?_
    refine x_goto 63 67 dX9_item_63 (by decide) ?_
    exact t_X9_item_67 l hκ57 H

def lp_X9_item_57 (n : Nat) : Nat → Int32 → Int32 → XM → Option (Int32 × XM) := x_rec (fun _ _ _ _ => none) (bd_X9_item_57) n
theorem t_X9_item_57 (l : Launch) {q : Int32 × XM} : ∀ (n : Nat) (v0 : Nat) (v1 : Int32) (v2 : Int32) (M : XM), lp_X9_item_57 n v0 v1 v2 M = some q → AW l m_X9_item 3 0 0 (x_Ri q) 0 0 57 [some (.ref v0), some (.int v1), some (.int v2), none] [] M := by
  intro n
  induction n with
  | zero => intro v0 v1 v2 M H; cases H
  | succ n ih => intro v0 v1 v2 M H; exact tb_X9_item_57 l ih H
def f_X9_item_c44 (v0 : Nat) (s0 : Int32) (M : XM) : Option (Int32 × XM) :=
  if s0 = (-1 : Int32) then (some ((0 : Int32), M)) else (lp_X9_item_57 x_fuel v0 s0 (0 : Int32) M)
set_option maxRecDepth 20000 in
set_option maxHeartbeats 4000000 in
theorem t_X9_item_c44 (l : Launch) {v0 : Nat} {s0 : Int32} {M : XM} {q : Int32 × XM} (H : f_X9_item_c44 v0 s0 M = some q) : AW l m_X9_item 3 0 0 (x_Ri q) 0 0 47 [some (.ref v0), none, none, none] [(.int s0)] M := by
  unfold f_X9_item_c44 at H
  refine x_istore_n 47 1 [some (.ref v0), some (.int s0), none, none] dX9_item_47 rfl rfl (Nat.le_of_ble_eq_true rfl) rfl ?_
  refine x_iload_n 48 1 dX9_item_48 rfl rfl ?_
  refine x_iconst 49 (-1 : Int32) dX9_item_49 (by decide) ?_
  refine x_icmp_ne 50 55 dX9_item_50 (by decide) (fun c15 => ?_) (fun c15 => ?_)
  · replace H := x_ifn c15 H
    refine x_iconst 55 (0 : Int32) dX9_item_55 (by decide) ?_
    refine x_istore_n 56 2 [some (.ref v0), some (.int s0), some (.int (0 : Int32)), none] dX9_item_56 rfl rfl (Nat.le_of_ble_eq_true rfl) rfl ?_
    exact t_X9_item_57 l _ _ _ _ _ H
  · replace H := x_ifp c15 H
    refine x_iconst 53 (0 : Int32) dX9_item_53 (by decide) ?_
    cases H
    exact x_iret 54 dX9_item_54 .boolean rfl rfl (Nat.le_of_ble_eq_true rfl) (Nat.le_of_ble_eq_true rfl) ⟨rfl, rfl⟩

def f_X9_item_43 (v0 : Nat) (M : XM) : Option (Int32 × XM) :=
  if x_tag M v0 = 9 + 10 then (x_bd (f_X9_word v0 M) (f_X9_item_c44 v0)) else none
set_option maxRecDepth 20000 in
set_option maxHeartbeats 4000000 in
theorem t_X9_item_43 (l : Launch) {v0 : Nat} {M : XM} {q : Int32 × XM} (H : f_X9_item_43 v0 M = some q) : AW l m_X9_item 3 0 0 (x_Ri q) 0 0 43 [some (.ref v0), none, none, none] [] M := by
  unfold f_X9_item_43 at H
  refine x_aload_n 43 0 dX9_item_43 rfl rfl ?_
  obtain ⟨h11, H⟩ := x_ckp H
  obtain ⟨r13, M12, e14, H⟩ := x_bd_of H
  refine x_callV 44 153 9 [] [] dX9_item_44 (ct_X9_word l e14) lk_1253 lk_1255 lk_48 (by decide) h11 lk_94 lk_1256 ⟨cn_X9_word, (by decide), by decide⟩ rfl (Nat.le_of_ble_eq_true rfl) (Nat.le_of_ble_eq_true rfl) (Nat.le_of_ble_eq_true rfl) (x_ri ?_)
  exact t_X9_item_c44 l H

def f_X9_item_34 (v0 : Nat) (M : XM) : Option (Int32 × XM) :=
  if x_tag M v0 = 9 + 10 then (x_bd (f_X9_wrong v0 (x_i M v0 25) M) (fun r95 M94 => if r95 = 0 ∨ r95 = 1 then (some (r95, M94)) else none)) else none
set_option maxRecDepth 20000 in
set_option maxHeartbeats 4000000 in
theorem t_X9_item_34 (l : Launch) {v0 : Nat} {M : XM} {q : Int32 × XM} (H : f_X9_item_34 v0 M = some q) : AW l m_X9_item 3 0 0 (x_Ri q) 0 0 34 [some (.ref v0), none, none, none] [] M := by
  unfold f_X9_item_34 at H
  refine x_aload_n 34 0 dX9_item_34 rfl rfl ?_
  refine x_aload_n 35 0 dX9_item_35 rfl rfl ?_
  obtain ⟨h93, H⟩ := x_ckp H
  refine x_getf 36 128 9 25 (.int (x_i M v0 25)) dX9_item_36 lk_1055 (by decide) (by decide) rfl (fun _ => rfl) h93 ?_
  obtain ⟨r95, M94, e96, H⟩ := x_bd_of H
  refine x_callV 39 144 9 [(.int (x_i M v0 25))] [] dX9_item_39 (ct_X9_wrong l e96) lk_1249 lk_1251 lk_47 (by decide) h93 lk_94 lk_1252 ⟨cn_X9_wrong, (by decide), by decide⟩ rfl (Nat.le_of_ble_eq_true rfl) (Nat.le_of_ble_eq_true rfl) (Nat.le_of_ble_eq_true rfl) (x_ri ?_)
  obtain ⟨h97, H⟩ := x_ckp H
  cases H
  exact x_iret 42 dX9_item_42 .boolean rfl (x_narZ h97) (Nat.le_of_ble_eq_true rfl) (Nat.le_of_ble_eq_true rfl) ⟨rfl, rfl⟩

def f_X9_item_c19 (v0 : Nat) (s0 : Int32) (M : XM) : Option (Int32 × XM) :=
  if s0 = 0 then (f_X9_item_43 v0 M) else (if x_tag M v0 = 9 + 10 then (if (x_i M v0 6) = (8 : Int32) then (f_X9_item_34 v0 M) else (f_X9_item_43 v0 M)) else none)
set_option maxRecDepth 20000 in
set_option maxHeartbeats 4000000 in
theorem t_X9_item_c19 (l : Launch) {v0 : Nat} {s0 : Int32} {M : XM} {q : Int32 × XM} (H : f_X9_item_c19 v0 s0 M = some q) : AW l m_X9_item 3 0 0 (x_Ri q) 0 0 22 [some (.ref v0), none, none, none] [(.int s0)] M := by
  unfold f_X9_item_c19 at H
  refine x_if_eq 22 43 dX9_item_22 (by decide) (fun c10 => ?_) (fun c10 => ?_)
  · replace H := x_ifp c10 H
    exact t_X9_item_43 l H
  · replace H := x_ifn c10 H
    refine x_aload_n 25 0 dX9_item_25 rfl rfl ?_
    obtain ⟨h91, H⟩ := x_ckp H
    refine x_getf 26 150 9 6 (.int (x_i M v0 6)) dX9_item_26 lk_1036 (by decide) (by decide) rfl (fun _ => rfl) h91 ?_
    refine x_bipush 29 (8 : Int32) dX9_item_29 (by decide) ?_
    refine x_icmp_ne 31 43 dX9_item_31 (by decide) (fun c92 => ?_) (fun c92 => ?_)
    · replace H := x_ifn c92 H
      exact t_X9_item_43 l H
    · replace H := x_ifp c92 H
      exact t_X9_item_34 l H

def f_X9_item_17 (v0 : Nat) (M : XM) : Option (Int32 × XM) :=
  if x_tag M v0 = 9 + 10 then (x_bd (f_X9_isWordAt v0 (5 : Int32) M) (f_X9_item_c19 v0)) else none
set_option maxRecDepth 20000 in
set_option maxHeartbeats 4000000 in
theorem t_X9_item_17 (l : Launch) {v0 : Nat} {M : XM} {q : Int32 × XM} (H : f_X9_item_17 v0 M = some q) : AW l m_X9_item 3 0 0 (x_Ri q) 0 0 17 [some (.ref v0), none, none, none] [] M := by
  unfold f_X9_item_17 at H
  refine x_aload_n 17 0 dX9_item_17 rfl rfl ?_
  refine x_iconst 18 (5 : Int32) dX9_item_18 (by decide) ?_
  obtain ⟨h6, H⟩ := x_ckp H
  obtain ⟨r8, M7, e9, H⟩ := x_bd_of H
  refine x_callV 19 147 9 [(.int (5 : Int32))] [] dX9_item_19 (ct_X9_isWordAt l e9) lk_1245 lk_1247 lk_46 (by decide) h6 lk_94 lk_1248 ⟨cn_X9_isWordAt, (by decide), by decide⟩ rfl (Nat.le_of_ble_eq_true rfl) (Nat.le_of_ble_eq_true rfl) (Nat.le_of_ble_eq_true rfl) (x_ri ?_)
  exact t_X9_item_c19 l H

def f_X9_item_c2 (v0 : Nat) (s0 : Int32) (M : XM) : Option (Int32 × XM) :=
  if s0 = 0 then (f_X9_item_17 v0 M) else (if x_tag M v0 = 9 + 10 then (if (x_i M v0 0) = (6 : Int32) then (f_X9_item_34 v0 M) else (f_X9_item_17 v0 M)) else none)
set_option maxRecDepth 20000 in
set_option maxHeartbeats 4000000 in
theorem t_X9_item_c2 (l : Launch) {v0 : Nat} {s0 : Int32} {M : XM} {q : Int32 × XM} (H : f_X9_item_c2 v0 s0 M = some q) : AW l m_X9_item 3 0 0 (x_Ri q) 0 0 5 [some (.ref v0), none, none, none] [(.int s0)] M := by
  unfold f_X9_item_c2 at H
  refine x_if_eq 5 17 dX9_item_5 (by decide) (fun c5 => ?_) (fun c5 => ?_)
  · replace H := x_ifp c5 H
    exact t_X9_item_17 l H
  · replace H := x_ifn c5 H
    refine x_aload_n 8 0 dX9_item_8 rfl rfl ?_
    obtain ⟨h98, H⟩ := x_ckp H
    refine x_getf 9 93 9 0 (.int (x_i M v0 0)) dX9_item_9 lk_1030 (by decide) (by decide) rfl (fun _ => rfl) h98 ?_
    refine x_bipush 12 (6 : Int32) dX9_item_12 (by decide) ?_
    refine x_icmp_eq 14 34 dX9_item_14 (by decide) (fun c99 => ?_) (fun c99 => ?_)
    · replace H := x_ifp c99 H
      exact t_X9_item_34 l H
    · replace H := x_ifn c99 H
      exact t_X9_item_17 l H

def f_X9_item (v0 : Nat) (M : XM) : Option (Int32 × XM) :=
  if x_tag M v0 = 9 + 10 then (x_bd (f_X9_isWordAt v0 (0 : Int32) M) (f_X9_item_c2 v0)) else none
set_option maxRecDepth 20000 in
set_option maxHeartbeats 4000000 in
theorem t_X9_item (l : Launch) {v0 : Nat} {M : XM} {q : Int32 × XM} (H : f_X9_item v0 M = some q) : AW l m_X9_item 3 0 0 (x_Ri q) 0 0 0 [some (.ref v0), none, none, none] [] M := by
  unfold f_X9_item at H
  refine x_aload_n 0 0 dX9_item_0 rfl rfl ?_
  refine x_iconst 1 (0 : Int32) dX9_item_1 (by decide) ?_
  obtain ⟨h1, H⟩ := x_ckp H
  obtain ⟨r3, M2, e4, H⟩ := x_bd_of H
  refine x_callV 2 147 9 [(.int (0 : Int32))] [] dX9_item_2 (ct_X9_isWordAt l e4) lk_1245 lk_1247 lk_46 (by decide) h1 lk_94 lk_1248 ⟨cn_X9_isWordAt, (by decide), by decide⟩ rfl (Nat.le_of_ble_eq_true rfl) (Nat.le_of_ble_eq_true rfl) (Nat.le_of_ble_eq_true rfl) (x_ri ?_)
  exact t_X9_item_c2 l H

theorem ct_X9_item (l : Launch) {v0 : Nat} {M : XM} {q : Int32 × XM} (H : f_X9_item v0 M = some q) : Ct l m_X9_item 3 0 0 [(.ref v0)] M (x_Ri q) := x_met l m_X9_item 3 0 0 [(.ref v0)] M (x_Ri q) _ rfl rfl (Nat.le_of_ble_eq_true rfl) (t_X9_item l H)
abbrev m_X9_carries : XU := (yX9_carries, cX9_carries, 7, (some .int))
theorem cn_X9_carries : m_X9_carries.1.cls ≠ "java/lang/invoke/MethodHandle" ∧ m_X9_carries.1.cls ≠ "java/lang/invoke/VarHandle" ∧ (parseMethodDescriptor m_X9_carries.1.desc).map (fun q => q.parameters.length) = some 5 := by decide +kernel
def f_X9_carries_39 (κ3 : Nat → Int32 → Nat → Int32 → Int32 → Int32 → XM → Option (Int32 × XM)) (v1 : Nat) (v2 : Int32) (v3 : Nat) (v4 : Int32) (v5 : Int32) (v6 : Int32) (M : XM) : Option (Int32 × XM) :=
  κ3 v1 v2 v3 v4 v5 (v6 + (1 : Int32)) M
set_option maxRecDepth 20000 in
set_option maxHeartbeats 4000000 in
theorem t_X9_carries_39 (l : Launch) {κ3 : Nat → Int32 → Nat → Int32 → Int32 → Int32 → XM → Option (Int32 × XM)} {v1 : Nat} {v2 : Int32} {v3 : Nat} {v4 : Int32} {v5 : Int32} {v6 : Int32} {M : XM} {q : Int32 × XM} (hκ3 : ∀ (v1 : Nat) (v2 : Int32) (v3 : Nat) (v4 : Int32) (v5 : Int32) (v6 : Int32) (M : XM), κ3 v1 v2 v3 v4 v5 v6 M = some q → AW l m_X9_carries 1 0 0 (x_Ri q) 0 0 3 [none, some (.ref v1), some (.int v2), some (.ref v3), some (.int v4), some (.int v5), some (.int v6)] [] M) (H : f_X9_carries_39 κ3 v1 v2 v3 v4 v5 v6 M = some q) : AW l m_X9_carries 1 0 0 (x_Ri q) 0 0 39 [none, some (.ref v1), some (.int v2), some (.ref v3), some (.int v4), some (.int v5), some (.int v6)] [] M := by
  unfold f_X9_carries_39 at H
  refine x_iinc 39 6 (v6 + (1 : Int32)) [none, some (.ref v1), some (.int v2), some (.ref v3), some (.int v4), some (.int v5), some (.int (v6 + (1 : Int32)))] dX9_carries_39 rfl (congrArg (fun z : Int32 => v6 + z) (show Int32.ofInt (1) = (1 : Int32) by decide)) rfl (Nat.le_of_ble_eq_true rfl) rfl ?_
  refine x_goto 42 3 dX9_carries_42 (by decide) ?_
  exact hκ3 _ _ _ _ _ _ _ H

def bd_X9_carries_3 (κ3 : Nat → Int32 → Nat → Int32 → Int32 → Int32 → XM → Option (Int32 × XM)) (v1 : Nat) (v2 : Int32) (v3 : Nat) (v4 : Int32) (v5 : Int32) (v6 : Int32) (M : XM) : Option (Int32 × XM) :=
  if v2 ≤ v6 then (some ((v4 + v2), M)) else (if v5 = 0 then (if x_at M v1 1 v6 = true then (if x_at M v3 1 (v4 + v6) = true then (x_lt (x_wi M v3 (v4 + v6).toNatClampNeg (x_i M v1 v6.toNatClampNeg)) (fun M5 => f_X9_carries_39 κ3 v1 v2 v3 v4 v5 v6 M5)) else none) else none) else (if x_at M v3 1 (v4 + v6) = true then (if x_at M v1 1 v6 = true then (x_lt (x_wi M v1 v6.toNatClampNeg (x_i M v3 (v4 + v6).toNatClampNeg)) (fun M13 => f_X9_carries_39 κ3 v1 v2 v3 v4 v5 v6 M13)) else none) else none))
set_option maxRecDepth 20000 in
set_option maxHeartbeats 4000000 in
theorem tb_X9_carries_3 (l : Launch) {κ3 : Nat → Int32 → Nat → Int32 → Int32 → Int32 → XM → Option (Int32 × XM)} {v1 : Nat} {v2 : Int32} {v3 : Nat} {v4 : Int32} {v5 : Int32} {v6 : Int32} {M : XM} {q : Int32 × XM} (hκ3 : ∀ (v1 : Nat) (v2 : Int32) (v3 : Nat) (v4 : Int32) (v5 : Int32) (v6 : Int32) (M : XM), κ3 v1 v2 v3 v4 v5 v6 M = some q → AW l m_X9_carries 1 0 0 (x_Ri q) 0 0 3 [none, some (.ref v1), some (.int v2), some (.ref v3), some (.int v4), some (.int v5), some (.int v6)] [] M) (H : bd_X9_carries_3 κ3 v1 v2 v3 v4 v5 v6 M = some q) : AW l m_X9_carries 1 0 0 (x_Ri q) 0 0 3 [none, some (.ref v1), some (.int v2), some (.ref v3), some (.int v4), some (.int v5), some (.int v6)] [] M := by
  unfold bd_X9_carries_3 at H
  refine x_iload 3 6 dX9_carries_3 rfl ?_
  refine x_iload_n 5 2 dX9_carries_5 rfl rfl ?_
  refine x_icmp_ge 6 45 dX9_carries_6 (by decide) (fun c1 => ?_) (fun c1 => ?_)
  · replace H := x_ifp c1 H
    refine x_iload 45 4 dX9_carries_45 rfl ?_
    refine x_iload_n 47 2 dX9_carries_47 rfl rfl ?_
    refine x_iadd 48 dX9_carries_48 ?_
    cases H
    exact x_iret 49 dX9_carries_49 .int rfl rfl (Nat.le_of_ble_eq_true rfl) (Nat.le_of_ble_eq_true rfl) ⟨rfl, rfl⟩
  · replace H := x_ifn c1 H
    refine x_iload 9 5 dX9_carries_9 rfl ?_
    refine x_if_eq 11 28 dX9_carries_11 (by decide) (fun c2 => ?_) (fun c2 => ?_)
    · replace H := x_ifp c2 H
      refine x_aload_n 28 3 dX9_carries_28 rfl rfl ?_
      refine x_iload 29 4 dX9_carries_29 rfl ?_
      refine x_iload 31 6 dX9_carries_31 rfl ?_
      refine x_iadd 33 dX9_carries_33 ?_
      refine x_aload_n 34 1 dX9_carries_34 rfl rfl ?_
      refine x_iload 35 6 dX9_carries_35 rfl ?_
      obtain ⟨h3, H⟩ := x_ckp H
      refine x_iald 37 dX9_carries_37 h3 ?_
      obtain ⟨h4, H⟩ := x_ckp H
      obtain ⟨M5, w6, H⟩ := x_lt_of H
      have h7 : x_at M5 v1 1 v6 = true := by rw [w6]; exact h3
      have h8 : x_tag M5 v1 = 1 := by rw [w6]; exact (x_at_1 h3)
      have h9 : x_at M5 v3 1 (v4 + v6) = true := by rw [w6]; exact h4
      have h10 : x_tag M5 v3 = 1 := by rw [w6]; exact (x_at_1 h4)
      refine x_iast' 38 dX9_carries_38 h4 w6 ?_
      exact t_X9_carries_39 l hκ3 H
    · replace H := x_ifn c2 H
      refine x_aload_n 14 1 dX9_carries_14 rfl rfl ?_
      refine x_iload 15 6 dX9_carries_15 rfl ?_
      refine x_aload_n 17 3 dX9_carries_17 rfl rfl ?_
      refine x_iload 18 4 dX9_carries_18 rfl ?_
      refine x_iload 20 6 dX9_carries_20 rfl ?_
      refine x_iadd 22 dX9_carries_22 ?_
      obtain ⟨h11, H⟩ := x_ckp H
      refine x_iald 23 dX9_carries_23 h11 ?_
      obtain ⟨h12, H⟩ := x_ckp H
      obtain ⟨M13, w14, H⟩ := x_lt_of H
      have h15 : x_at M13 v3 1 (v4 + v6) = true := by rw [w14]; exact h11
      have h16 : x_tag M13 v3 = 1 := by rw [w14]; exact (x_at_1 h11)
      have h17 : x_at M13 v1 1 v6 = true := by rw [w14]; exact h12
      have h18 : x_tag M13 v1 = 1 := by rw [w14]; exact (x_at_1 h12)
      refine x_iast' 24 dX9_carries_24 h12 w14 ?_
      refine x_goto 25 39 dX9_carries_25 (by decide) ?_
      exact t_X9_carries_39 l hκ3 H

def lp_X9_carries_3 (n : Nat) : Nat → Int32 → Nat → Int32 → Int32 → Int32 → XM → Option (Int32 × XM) := x_rec (fun _ _ _ _ _ _ _ => none) (bd_X9_carries_3) n
theorem t_X9_carries_3 (l : Launch) {q : Int32 × XM} : ∀ (n : Nat) (v1 : Nat) (v2 : Int32) (v3 : Nat) (v4 : Int32) (v5 : Int32) (v6 : Int32) (M : XM), lp_X9_carries_3 n v1 v2 v3 v4 v5 v6 M = some q → AW l m_X9_carries 1 0 0 (x_Ri q) 0 0 3 [none, some (.ref v1), some (.int v2), some (.ref v3), some (.int v4), some (.int v5), some (.int v6)] [] M := by
  intro n
  induction n with
  | zero => intro v1 v2 v3 v4 v5 v6 M H; cases H
  | succ n ih => intro v1 v2 v3 v4 v5 v6 M H; exact tb_X9_carries_3 l ih H
def f_X9_carries (v0 : Nat) (v1 : Nat) (v2 : Int32) (v3 : Nat) (v4 : Int32) (v5 : Int32) (M : XM) : Option (Int32 × XM) :=
  lp_X9_carries_3 x_fuel v1 v2 v3 v4 v5 (0 : Int32) M
set_option maxRecDepth 20000 in
set_option maxHeartbeats 4000000 in
theorem t_X9_carries (l : Launch) {v0 : Nat} {v1 : Nat} {v2 : Int32} {v3 : Nat} {v4 : Int32} {v5 : Int32} {M : XM} {q : Int32 × XM} (H : f_X9_carries v0 v1 v2 v3 v4 v5 M = some q) : AW l m_X9_carries 1 0 0 (x_Ri q) 0 0 0 [some (.ref v0), some (.ref v1), some (.int v2), some (.ref v3), some (.int v4), some (.int v5), none] [] M := by
  unfold f_X9_carries at H
  refine x_iconst 0 (0 : Int32) dX9_carries_0 (by decide) ?_
  refine x_istore 1 6 [some (.ref v0), some (.ref v1), some (.int v2), some (.ref v3), some (.int v4), some (.int v5), some (.int (0 : Int32))] dX9_carries_1 rfl (Nat.le_of_ble_eq_true rfl) rfl ?_
  exact x_wk (le_n (le_s (le_s (le_s (le_s (le_s (le_s le_0))))))) (t_X9_carries_3 l _ _ _ _ _ _ _ _ H)

theorem ct_X9_carries (l : Launch) {v0 : Nat} {v1 : Nat} {v2 : Int32} {v3 : Nat} {v4 : Int32} {v5 : Int32} {M : XM} {q : Int32 × XM} (H : f_X9_carries v0 v1 v2 v3 v4 v5 M = some q) : Ct l m_X9_carries 1 0 0 [(.ref v0), (.ref v1), (.int v2), (.ref v3), (.int v4), (.int v5)] M (x_Ri q) := x_met l m_X9_carries 1 0 0 [(.ref v0), (.ref v1), (.int v2), (.ref v3), (.int v4), (.int v5)] M (x_Ri q) _ rfl rfl (Nat.le_of_ble_eq_true rfl) (t_X9_carries l H)
