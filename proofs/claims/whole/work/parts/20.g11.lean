theorem lk_1331 : Cond.code yX9_lays cX9_lays 3 none ∈ x_TB := x_tb (k := 1331) (by decide +kernel) rfl
theorem lk_1328 : Cond.methodLink RX9 227 yX9_lays ∈ x_TB := x_tb (k := 1328) (by decide +kernel) rfl
theorem lk_62 : Cond.selects RX9 yX9_lays yX9_lays ∈ x_TB := x_tb (k := 62) (by decide +kernel) rfl
theorem lk_1330 : Cond.instanceMethod yX9_lays ∈ x_TB := x_tb (k := 1330) (by decide +kernel) rfl
theorem lk_1349 : Cond.code yX9_partsThrough cX9_partsThrough 3 (some .int) ∈ x_TB := x_tb (k := 1349) (by decide +kernel) rfl
theorem lk_1346 : Cond.methodLink RX9 233 yX9_partsThrough ∈ x_TB := x_tb (k := 1346) (by decide +kernel) rfl
theorem lk_66 : Cond.selects RX9 yX9_partsThrough yX9_partsThrough ∈ x_TB := x_tb (k := 66) (by decide +kernel) rfl
theorem lk_1348 : Cond.instanceMethod yX9_partsThrough ∈ x_TB := x_tb (k := 1348) (by decide +kernel) rfl
theorem lk_1344 : Cond.code yX9_flows cX9_flows 8 none ∈ x_TB := x_tb (k := 1344) (by decide +kernel) rfl
theorem lk_1341 : Cond.methodLink RX9 230 yX9_flows ∈ x_TB := x_tb (k := 1341) (by decide +kernel) rfl
theorem lk_65 : Cond.selects RX9 yX9_flows yX9_flows ∈ x_TB := x_tb (k := 65) (by decide +kernel) rfl
theorem lk_1343 : Cond.instanceMethod yX9_flows ∈ x_TB := x_tb (k := 1343) (by decide +kernel) rfl
abbrev m_X9_chanceOf : XU := (yX9_chanceOf, cX9_chanceOf, 4, (some .int))
theorem cn_X9_chanceOf : m_X9_chanceOf.1.cls ≠ "java/lang/invoke/MethodHandle" ∧ m_X9_chanceOf.1.cls ≠ "java/lang/invoke/VarHandle" ∧ (parseMethodDescriptor m_X9_chanceOf.1.desc).map (fun q => q.parameters.length) = some 2 := by decide +kernel
def bd_X9_chanceOf_7 (κ7 : Nat → Int32 → Int32 → Int32 → XM → Option (Int32 × XM)) (v0 : Nat) (v1 : Int32) (v2 : Int32) (v3 : Int32) (M : XM) : Option (Int32 × XM) :=
  if v2 ≤ v3 then (if x_tag M v0 = 9 + 10 then (x_bd (f_X9_partsThrough v0 M) (fun r8 M7 => some (r8, M7))) else none) else (if x_tag M v0 = 9 + 10 then (x_bv (f_X9_flows v0 v1 M) (fun M11 => κ7 v0 v1 v2 (v3 + (1 : Int32)) M11)) else none)
set_option maxRecDepth 20000 in
set_option maxHeartbeats 4000000 in
theorem tb_X9_chanceOf_7 (l : Launch) {κ7 : Nat → Int32 → Int32 → Int32 → XM → Option (Int32 × XM)} {v0 : Nat} {v1 : Int32} {v2 : Int32} {v3 : Int32} {M : XM} {q : Int32 × XM} (hκ7 : ∀ (v0 : Nat) (v1 : Int32) (v2 : Int32) (v3 : Int32) (M : XM), κ7 v0 v1 v2 v3 M = some q → AW l m_X9_chanceOf 4 0 0 (x_Ri q) 0 0 7 [some (.ref v0), some (.int v1), some (.int v2), some (.int v3)] [] M) (H : bd_X9_chanceOf_7 κ7 v0 v1 v2 v3 M = some q) : AW l m_X9_chanceOf 4 0 0 (x_Ri q) 0 0 7 [some (.ref v0), some (.int v1), some (.int v2), some (.int v3)] [] M := by
  unfold bd_X9_chanceOf_7 at H
  refine x_iload_n 7 3 dX9_chanceOf_7 rfl rfl ?_
  refine x_iload_n 8 2 dX9_chanceOf_8 rfl rfl ?_
  refine x_icmp_ge 9 23 dX9_chanceOf_9 (by decide) (fun c5 => ?_) (fun c5 => ?_)
  · replace H := x_ifp c5 H
    refine x_aload_n 23 0 dX9_chanceOf_23 rfl rfl ?_
    obtain ⟨h6, H⟩ := x_ckp H
    obtain ⟨r8, M7, e9, H⟩ := x_bd_of H
    refine x_callV 24 233 9 [] [] dX9_chanceOf_24 (ct_X9_partsThrough l e9) lk_1346 lk_1348 lk_66 (by decide) h6 lk_94 lk_1349 ⟨cn_X9_partsThrough, (by decide), by decide⟩ rfl (Nat.le_of_ble_eq_true rfl) (Nat.le_of_ble_eq_true rfl) (Nat.le_of_ble_eq_true rfl) (x_ri ?_)
    cases H
    exact x_iret 27 dX9_chanceOf_27 .int rfl rfl (Nat.le_of_ble_eq_true rfl) (Nat.le_of_ble_eq_true rfl) ⟨rfl, rfl⟩
  · replace H := x_ifn c5 H
    refine x_aload_n 12 0 dX9_chanceOf_12 rfl rfl ?_
    refine x_iload_n 13 1 dX9_chanceOf_13 rfl rfl ?_
    obtain ⟨h10, H⟩ := x_ckp H
    obtain ⟨M11, e13, H⟩ := x_bv_of H
    refine x_callV 14 230 9 [(.int v1)] [] dX9_chanceOf_14 (ct_X9_flows l e13) lk_1341 lk_1343 lk_65 (by decide) h10 lk_94 lk_1344 ⟨cn_X9_flows, (by decide), by decide⟩ rfl (Nat.le_of_ble_eq_true rfl) (Nat.le_of_ble_eq_true rfl) (Nat.le_of_ble_eq_true rfl) (x_rv ?_)
    refine x_iinc 17 3 (v3 + (1 : Int32)) [some (.ref v0), some (.int v1), some (.int v2), some (.int (v3 + (1 : Int32)))] dX9_chanceOf_17 rfl (congrArg (fun z : Int32 => v3 + z) (show Int32.ofInt (1) = (1 : Int32) by decide)) rfl (Nat.le_of_ble_eq_true rfl) rfl ?_
    refine x_goto 20 7 dX9_chanceOf_20 (by decide) ?_
    exact hκ7 _ _ _ _ _ H

def lp_X9_chanceOf_7 (n : Nat) : Nat → Int32 → Int32 → Int32 → XM → Option (Int32 × XM) := x_rec (fun _ _ _ _ _ => none) (bd_X9_chanceOf_7) n
theorem t_X9_chanceOf_7 (l : Launch) {q : Int32 × XM} : ∀ (n : Nat) (v0 : Nat) (v1 : Int32) (v2 : Int32) (v3 : Int32) (M : XM), lp_X9_chanceOf_7 n v0 v1 v2 v3 M = some q → AW l m_X9_chanceOf 4 0 0 (x_Ri q) 0 0 7 [some (.ref v0), some (.int v1), some (.int v2), some (.int v3)] [] M := by
  intro n
  induction n with
  | zero => intro v0 v1 v2 v3 M H; cases H
  | succ n ih => intro v0 v1 v2 v3 M H; exact tb_X9_chanceOf_7 l ih H
def f_X9_chanceOf (v0 : Nat) (v1 : Int32) (v2 : Int32) (M : XM) : Option (Int32 × XM) :=
  if x_tag M v0 = 9 + 10 then (x_bv (f_X9_lays v0 v1 M) (fun M2 => lp_X9_chanceOf_7 x_fuel v0 v1 v2 (0 : Int32) M2)) else none
set_option maxRecDepth 20000 in
set_option maxHeartbeats 4000000 in
theorem t_X9_chanceOf (l : Launch) {v0 : Nat} {v1 : Int32} {v2 : Int32} {M : XM} {q : Int32 × XM} (H : f_X9_chanceOf v0 v1 v2 M = some q) : AW l m_X9_chanceOf 4 0 0 (x_Ri q) 0 0 0 [some (.ref v0), some (.int v1), some (.int v2), none] [] M := by
  unfold f_X9_chanceOf at H
  refine x_aload_n 0 0 dX9_chanceOf_0 rfl rfl ?_
  refine x_iload_n 1 1 dX9_chanceOf_1 rfl rfl ?_
  obtain ⟨h1, H⟩ := x_ckp H
  obtain ⟨M2, e4, H⟩ := x_bv_of H
  refine x_callV 2 227 9 [(.int v1)] [] dX9_chanceOf_2 (ct_X9_lays l e4) lk_1328 lk_1330 lk_62 (by decide) h1 lk_94 lk_1331 ⟨cn_X9_lays, (by decide), by decide⟩ rfl (Nat.le_of_ble_eq_true rfl) (Nat.le_of_ble_eq_true rfl) (Nat.le_of_ble_eq_true rfl) (x_rv ?_)
  refine x_iconst 5 (0 : Int32) dX9_chanceOf_5 (by decide) ?_
  refine x_istore_n 6 3 [some (.ref v0), some (.int v1), some (.int v2), some (.int (0 : Int32))] dX9_chanceOf_6 rfl rfl (Nat.le_of_ble_eq_true rfl) rfl ?_
  exact t_X9_chanceOf_7 l _ _ _ _ _ _ H

theorem ct_X9_chanceOf (l : Launch) {v0 : Nat} {v1 : Int32} {v2 : Int32} {M : XM} {q : Int32 × XM} (H : f_X9_chanceOf v0 v1 v2 M = some q) : Ct l m_X9_chanceOf 4 0 0 [(.ref v0), (.int v1), (.int v2)] M (x_Ri q) := x_met l m_X9_chanceOf 4 0 0 [(.ref v0), (.int v1), (.int v2)] M (x_Ri q) _ rfl rfl (Nat.le_of_ble_eq_true rfl) (t_X9_chanceOf l H)
abbrev m_X9_medianOf : XU := (yX9_medianOf, cX9_medianOf, 4, (some .int))
theorem cn_X9_medianOf : m_X9_medianOf.1.cls ≠ "java/lang/invoke/MethodHandle" ∧ m_X9_medianOf.1.cls ≠ "java/lang/invoke/VarHandle" ∧ (parseMethodDescriptor m_X9_medianOf.1.desc).map (fun q => q.parameters.length) = some 2 := by decide +kernel
def bd_X9_medianOf_7 (κ7 : Nat → Int32 → Int32 → Int32 → XM → Option (Int32 × XM)) (v0 : Nat) (v1 : Int32) (v2 : Int32) (v3 : Int32) (M : XM) : Option (Int32 × XM) :=
  if (400 : Int32) < v3 then (some ((-1 : Int32), M)) else (if x_tag M v0 = 9 + 10 then (x_bd (f_X9_partsThrough v0 M) (fun r8 M7 => if r8 < v2 then (if x_tag M7 v0 = 9 + 10 then (x_bv (f_X9_flows v0 v1 M7) (fun M12 => κ7 v0 v1 v2 (v3 + (1 : Int32)) M12)) else none) else (some (v3, M7)))) else none)
set_option maxRecDepth 20000 in
set_option maxHeartbeats 4000000 in
theorem tb_X9_medianOf_7 (l : Launch) {κ7 : Nat → Int32 → Int32 → Int32 → XM → Option (Int32 × XM)} {v0 : Nat} {v1 : Int32} {v2 : Int32} {v3 : Int32} {M : XM} {q : Int32 × XM} (hκ7 : ∀ (v0 : Nat) (v1 : Int32) (v2 : Int32) (v3 : Int32) (M : XM), κ7 v0 v1 v2 v3 M = some q → AW l m_X9_medianOf 4 0 0 (x_Ri q) 0 0 7 [some (.ref v0), some (.int v1), some (.int v2), some (.int v3)] [] M) (H : bd_X9_medianOf_7 κ7 v0 v1 v2 v3 M = some q) : AW l m_X9_medianOf 4 0 0 (x_Ri q) 0 0 7 [some (.ref v0), some (.int v1), some (.int v2), some (.int v3)] [] M := by
  unfold bd_X9_medianOf_7 at H
  refine x_iload_n 7 3 dX9_medianOf_7 rfl rfl ?_
  refine x_sipush 8 (400 : Int32) dX9_medianOf_8 (by decide) ?_
  refine x_icmp_gt 11 35 dX9_medianOf_11 (by decide) (fun c5 => ?_) (fun c5 => ?_)
  · replace H := x_ifp c5 H
    refine x_iconst 35 (-1 : Int32) dX9_medianOf_35 (by decide) ?_
    cases H
    exact x_iret 36 dX9_medianOf_36 .int rfl rfl (Nat.le_of_ble_eq_true rfl) (Nat.le_of_ble_eq_true rfl) ⟨rfl, rfl⟩
  · replace H := x_ifn c5 H
    refine x_aload_n 14 0 dX9_medianOf_14 rfl rfl ?_
    obtain ⟨h6, H⟩ := x_ckp H
    obtain ⟨r8, M7, e9, H⟩ := x_bd_of H
    refine x_callV 15 233 9 [] [] dX9_medianOf_15 (ct_X9_partsThrough l e9) lk_1346 lk_1348 lk_66 (by decide) h6 lk_94 lk_1349 ⟨cn_X9_partsThrough, (by decide), by decide⟩ rfl (Nat.le_of_ble_eq_true rfl) (Nat.le_of_ble_eq_true rfl) (Nat.le_of_ble_eq_true rfl) (x_ri ?_)
    refine x_iload_n 18 2 dX9_medianOf_18 rfl rfl ?_
    refine x_icmp_lt 19 24 dX9_medianOf_19 (by decide) (fun c10 => ?_) (fun c10 => ?_)
    · replace H := x_ifp c10 H
      refine x_aload_n 24 0 dX9_medianOf_24 rfl rfl ?_
      refine x_iload_n 25 1 dX9_medianOf_25 rfl rfl ?_
      obtain ⟨h11, H⟩ := x_ckp H
      obtain ⟨M12, e14, H⟩ := x_bv_of H
      refine x_callV 26 230 9 [(.int v1)] [] dX9_medianOf_26 (ct_X9_flows l e14) lk_1341 lk_1343 lk_65 (by decide) h11 lk_94 lk_1344 ⟨cn_X9_flows, (by decide), by decide⟩ rfl (Nat.le_of_ble_eq_true rfl) (Nat.le_of_ble_eq_true rfl) (Nat.le_of_ble_eq_true rfl) (x_rv ?_)
      refine x_iinc 29 3 (v3 + (1 : Int32)) [some (.ref v0), some (.int v1), some (.int v2), some (.int (v3 + (1 : Int32)))] dX9_medianOf_29 rfl (congrArg (fun z : Int32 => v3 + z) (show Int32.ofInt (1) = (1 : Int32) by decide)) rfl (Nat.le_of_ble_eq_true rfl) rfl ?_
      refine x_goto 32 7 dX9_medianOf_32 (by decide) ?_
      exact hκ7 _ _ _ _ _ H
    · replace H := x_ifn c10 H
      refine x_iload_n 22 3 dX9_medianOf_22 rfl rfl ?_
      cases H
      exact x_iret 23 dX9_medianOf_23 .int rfl rfl (Nat.le_of_ble_eq_true rfl) (Nat.le_of_ble_eq_true rfl) ⟨rfl, rfl⟩

def lp_X9_medianOf_7 (n : Nat) : Nat → Int32 → Int32 → Int32 → XM → Option (Int32 × XM) := x_rec (fun _ _ _ _ _ => none) (bd_X9_medianOf_7) n
theorem t_X9_medianOf_7 (l : Launch) {q : Int32 × XM} : ∀ (n : Nat) (v0 : Nat) (v1 : Int32) (v2 : Int32) (v3 : Int32) (M : XM), lp_X9_medianOf_7 n v0 v1 v2 v3 M = some q → AW l m_X9_medianOf 4 0 0 (x_Ri q) 0 0 7 [some (.ref v0), some (.int v1), some (.int v2), some (.int v3)] [] M := by
  intro n
  induction n with
  | zero => intro v0 v1 v2 v3 M H; cases H
  | succ n ih => intro v0 v1 v2 v3 M H; exact tb_X9_medianOf_7 l ih H
def f_X9_medianOf (v0 : Nat) (v1 : Int32) (v2 : Int32) (M : XM) : Option (Int32 × XM) :=
  if x_tag M v0 = 9 + 10 then (x_bv (f_X9_lays v0 v1 M) (fun M2 => lp_X9_medianOf_7 x_fuel v0 v1 v2 (0 : Int32) M2)) else none
set_option maxRecDepth 20000 in
set_option maxHeartbeats 4000000 in
theorem t_X9_medianOf (l : Launch) {v0 : Nat} {v1 : Int32} {v2 : Int32} {M : XM} {q : Int32 × XM} (H : f_X9_medianOf v0 v1 v2 M = some q) : AW l m_X9_medianOf 4 0 0 (x_Ri q) 0 0 0 [some (.ref v0), some (.int v1), some (.int v2), none] [] M := by
  unfold f_X9_medianOf at H
  refine x_aload_n 0 0 dX9_medianOf_0 rfl rfl ?_
  refine x_iload_n 1 1 dX9_medianOf_1 rfl rfl ?_
  obtain ⟨h1, H⟩ := x_ckp H
  obtain ⟨M2, e4, H⟩ := x_bv_of H
  refine x_callV 2 227 9 [(.int v1)] [] dX9_medianOf_2 (ct_X9_lays l e4) lk_1328 lk_1330 lk_62 (by decide) h1 lk_94 lk_1331 ⟨cn_X9_lays, (by decide), by decide⟩ rfl (Nat.le_of_ble_eq_true rfl) (Nat.le_of_ble_eq_true rfl) (Nat.le_of_ble_eq_true rfl) (x_rv ?_)
  refine x_iconst 5 (0 : Int32) dX9_medianOf_5 (by decide) ?_
  refine x_istore_n 6 3 [some (.ref v0), some (.int v1), some (.int v2), some (.int (0 : Int32))] dX9_medianOf_6 rfl rfl (Nat.le_of_ble_eq_true rfl) rfl ?_
  exact t_X9_medianOf_7 l _ _ _ _ _ _ H

theorem ct_X9_medianOf (l : Launch) {v0 : Nat} {v1 : Int32} {v2 : Int32} {M : XM} {q : Int32 × XM} (H : f_X9_medianOf v0 v1 v2 M = some q) : Ct l m_X9_medianOf 4 0 0 [(.ref v0), (.int v1), (.int v2)] M (x_Ri q) := x_met l m_X9_medianOf 4 0 0 [(.ref v0), (.int v1), (.int v2)] M (x_Ri q) _ rfl rfl (Nat.le_of_ble_eq_true rfl) (t_X9_medianOf l H)
theorem lk_1327 : Cond.code yX9_chanceOf cX9_chanceOf 4 (some .int) ∈ x_TB := x_tb (k := 1327) (by decide +kernel) rfl
theorem lk_1324 : Cond.methodLink RX9 236 yX9_chanceOf ∈ x_TB := x_tb (k := 1324) (by decide +kernel) rfl
theorem lk_61 : Cond.selects RX9 yX9_chanceOf yX9_chanceOf ∈ x_TB := x_tb (k := 61) (by decide +kernel) rfl
theorem lk_1326 : Cond.instanceMethod yX9_chanceOf ∈ x_TB := x_tb (k := 1326) (by decide +kernel) rfl
abbrev m_X9_chance : XU := (yX9_chance, cX9_chance, 3, (some .int))
theorem cn_X9_chance : m_X9_chance.1.cls ≠ "java/lang/invoke/MethodHandle" ∧ m_X9_chance.1.cls ≠ "java/lang/invoke/VarHandle" ∧ (parseMethodDescriptor m_X9_chance.1.desc).map (fun q => q.parameters.length) = some 2 := by decide +kernel
def f_X9_chance_34 (v0 : Nat) (M : XM) : Option (Int32 × XM) :=
  if x_tag M v0 = 9 + 10 then (x_bd (f_X9_no v0 (-6 : Int32) M) (fun r13 M12 => some (r13, M12))) else none
set_option maxRecDepth 20000 in
set_option maxHeartbeats 4000000 in
theorem t_X9_chance_34 (l : Launch) {v0 : Nat} {M : XM} {q : Int32 × XM} (H : f_X9_chance_34 v0 M = some q) : AW l m_X9_chance 5 0 0 (x_Ri q) 0 0 34 [some (.ref v0), none, none] [] M := by
  unfold f_X9_chance_34 at H
  refine x_aload_n 34 0 dX9_chance_34 rfl rfl ?_
  refine x_bipush 35 (-6 : Int32) dX9_chance_35 (by decide) ?_
  obtain ⟨h11, H⟩ := x_ckp H
  obtain ⟨r13, M12, e14, H⟩ := x_bd_of H
  refine x_callV 37 100 9 [(.int (-6 : Int32))] [] dX9_chance_37 (ct_X9_no l e14) lk_1163 lk_1165 lk_37 (by decide) h11 lk_94 lk_1166 ⟨cn_X9_no, (by decide), by decide⟩ rfl (Nat.le_of_ble_eq_true rfl) (Nat.le_of_ble_eq_true rfl) (Nat.le_of_ble_eq_true rfl) (x_ri ?_)
  cases H
  exact x_iret 40 dX9_chance_40 .int rfl rfl (Nat.le_of_ble_eq_true rfl) (Nat.le_of_ble_eq_true rfl) ⟨rfl, rfl⟩

def f_X9_chance (v0 : Nat) (v1 : Int32) (v2 : Int32) (M : XM) : Option (Int32 × XM) :=
  if x_tag M v0 = 9 + 10 then (x_bd (f_X9_isCounter v0 v1 M) (fun r3 M2 => if r3 = 0 then (if x_tag M2 v0 = 9 + 10 then (x_bd (f_X9_no v0 (-1 : Int32) M2) (fun r8 M7 => some (r8, M7))) else none) else (if v2 < 0 then (f_X9_chance_34 v0 M2) else (if (400 : Int32) < v2 then (f_X9_chance_34 v0 M2) else (if x_tag M2 v0 = 9 + 10 then (x_bd (f_X9_chanceOf v0 v1 v2 M2) (fun r18 M17 => some (r18, M17))) else none))))) else none
set_option maxRecDepth 20000 in
set_option maxHeartbeats 4000000 in
theorem t_X9_chance (l : Launch) {v0 : Nat} {v1 : Int32} {v2 : Int32} {M : XM} {q : Int32 × XM} (H : f_X9_chance v0 v1 v2 M = some q) : AW l m_X9_chance 5 0 0 (x_Ri q) 0 0 0 [some (.ref v0), some (.int v1), some (.int v2)] [] M := by
  unfold f_X9_chance at H
  refine x_aload_n 0 0 dX9_chance_0 rfl rfl ?_
  refine x_iload_n 1 1 dX9_chance_1 rfl rfl ?_
  obtain ⟨h1, H⟩ := x_ckp H
  obtain ⟨r3, M2, e4, H⟩ := x_bd_of H
  refine x_callV 2 104 9 [(.int v1)] [] dX9_chance_2 (ct_X9_isCounter l e4) lk_1183 lk_1185 lk_38 (by decide) h1 lk_94 lk_1186 ⟨cn_X9_isCounter, (by decide), by decide⟩ rfl (Nat.le_of_ble_eq_true rfl) (Nat.le_of_ble_eq_true rfl) (Nat.le_of_ble_eq_true rfl) (x_ri ?_)
  refine x_if_ne 5 14 dX9_chance_5 (by decide) (fun c5 => ?_) (fun c5 => ?_)
  · replace H := x_ifn c5 H
    refine x_iload_n 14 2 dX9_chance_14 rfl rfl ?_
    refine x_if_lt 15 34 dX9_chance_15 (by decide) (fun c10 => ?_) (fun c10 => ?_)
    · replace H := x_ifp c10 H
      exact x_wk (le_s (le_n (le_n le_0))) (t_X9_chance_34 l H)
    · replace H := x_ifn c10 H
      refine x_iload_n 18 2 dX9_chance_18 rfl rfl ?_
      refine x_sipush 19 (400 : Int32) dX9_chance_19 (by decide) ?_
      refine x_icmp_gt 22 34 dX9_chance_22 (by decide) (fun c15 => ?_) (fun c15 => ?_)
      · replace H := x_ifp c15 H
        exact x_wk (le_s (le_n (le_n le_0))) (t_X9_chance_34 l H)
      · replace H := x_ifn c15 H
        refine x_aload_n 25 0 dX9_chance_25 rfl rfl ?_
        refine x_iload_n 26 1 dX9_chance_26 rfl rfl ?_
        refine x_iload_n 27 2 dX9_chance_27 rfl rfl ?_
        obtain ⟨h16, H⟩ := x_ckp H
        obtain ⟨r18, M17, e19, H⟩ := x_bd_of H
        refine x_callV 28 236 9 [(.int v1), (.int v2)] [] dX9_chance_28 (ct_X9_chanceOf l e19) lk_1324 lk_1326 lk_61 (by decide) h16 lk_94 lk_1327 ⟨cn_X9_chanceOf, (by decide), by decide⟩ rfl (Nat.le_of_ble_eq_true rfl) (Nat.le_of_ble_eq_true rfl) (Nat.le_of_ble_eq_true rfl) (x_ri ?_)
        refine x_goto 31 40 dX9_chance_31 (by decide) ?_
        cases H
        exact x_iret 40 dX9_chance_40 .int rfl rfl (Nat.le_of_ble_eq_true rfl) (Nat.le_of_ble_eq_true rfl) ⟨rfl, rfl⟩
  · replace H := x_ifp c5 H
    refine x_aload_n 8 0 dX9_chance_8 rfl rfl ?_
    refine x_iconst 9 (-1 : Int32) dX9_chance_9 (by decide) ?_
    obtain ⟨h6, H⟩ := x_ckp H
    obtain ⟨r8, M7, e9, H⟩ := x_bd_of H
    refine x_callV 10 100 9 [(.int (-1 : Int32))] [] dX9_chance_10 (ct_X9_no l e9) lk_1163 lk_1165 lk_37 (by decide) h6 lk_94 lk_1166 ⟨cn_X9_no, (by decide), by decide⟩ rfl (Nat.le_of_ble_eq_true rfl) (Nat.le_of_ble_eq_true rfl) (Nat.le_of_ble_eq_true rfl) (x_ri ?_)
    cases H
    exact x_iret 13 dX9_chance_13 .int rfl rfl (Nat.le_of_ble_eq_true rfl) (Nat.le_of_ble_eq_true rfl) ⟨rfl, rfl⟩

theorem ct_X9_chance (l : Launch) {v0 : Nat} {v1 : Int32} {v2 : Int32} {M : XM} {q : Int32 × XM} (H : f_X9_chance v0 v1 v2 M = some q) : Ct l m_X9_chance 5 0 0 [(.ref v0), (.int v1), (.int v2)] M (x_Ri q) := x_met l m_X9_chance 5 0 0 [(.ref v0), (.int v1), (.int v2)] M (x_Ri q) _ rfl rfl (Nat.le_of_ble_eq_true rfl) (t_X9_chance l H)
theorem lk_1357 : Cond.code yX9_medianOf cX9_medianOf 4 (some .int) ∈ x_TB := x_tb (k := 1357) (by decide +kernel) rfl
theorem lk_1354 : Cond.methodLink RX9 239 yX9_medianOf ∈ x_TB := x_tb (k := 1354) (by decide +kernel) rfl
theorem lk_67 : Cond.selects RX9 yX9_medianOf yX9_medianOf ∈ x_TB := x_tb (k := 67) (by decide +kernel) rfl
theorem lk_1356 : Cond.instanceMethod yX9_medianOf ∈ x_TB := x_tb (k := 1356) (by decide +kernel) rfl
abbrev m_X9_median : XU := (yX9_median, cX9_median, 3, (some .int))
theorem cn_X9_median : m_X9_median.1.cls ≠ "java/lang/invoke/MethodHandle" ∧ m_X9_median.1.cls ≠ "java/lang/invoke/VarHandle" ∧ (parseMethodDescriptor m_X9_median.1.desc).map (fun q => q.parameters.length) = some 2 := by decide +kernel
def f_X9_median_34 (v0 : Nat) (M : XM) : Option (Int32 × XM) :=
  if x_tag M v0 = 9 + 10 then (x_bd (f_X9_noTen v0 (-6 : Int32) M) (fun r13 M12 => some (r13, M12))) else none
set_option maxRecDepth 20000 in
set_option maxHeartbeats 4000000 in
theorem t_X9_median_34 (l : Launch) {v0 : Nat} {M : XM} {q : Int32 × XM} (H : f_X9_median_34 v0 M = some q) : AW l m_X9_median 5 0 0 (x_Ri q) 0 0 34 [some (.ref v0), none, none] [] M := by
  unfold f_X9_median_34 at H
  refine x_aload_n 34 0 dX9_median_34 rfl rfl ?_
  refine x_bipush 35 (-6 : Int32) dX9_median_35 (by decide) ?_
  obtain ⟨h11, H⟩ := x_ckp H
  obtain ⟨r13, M12, e14, H⟩ := x_bd_of H
  refine x_callV 37 212 9 [(.int (-6 : Int32))] [] dX9_median_37 (ct_X9_noTen l e14) lk_1312 lk_1314 lk_59 (by decide) h11 lk_94 lk_1315 ⟨cn_X9_noTen, (by decide), by decide⟩ rfl (Nat.le_of_ble_eq_true rfl) (Nat.le_of_ble_eq_true rfl) (Nat.le_of_ble_eq_true rfl) (x_ri ?_)
  cases H
  exact x_iret 40 dX9_median_40 .int rfl rfl (Nat.le_of_ble_eq_true rfl) (Nat.le_of_ble_eq_true rfl) ⟨rfl, rfl⟩

def f_X9_median (v0 : Nat) (v1 : Int32) (v2 : Int32) (M : XM) : Option (Int32 × XM) :=
  if x_tag M v0 = 9 + 10 then (x_bd (f_X9_isCounter v0 v1 M) (fun r3 M2 => if r3 = 0 then (if x_tag M2 v0 = 9 + 10 then (x_bd (f_X9_noTen v0 (-1 : Int32) M2) (fun r8 M7 => some (r8, M7))) else none) else (if v2 < (1 : Int32) then (f_X9_median_34 v0 M2) else (if (1000000 : Int32) < v2 then (f_X9_median_34 v0 M2) else (if x_tag M2 v0 = 9 + 10 then (x_bd (f_X9_medianOf v0 v1 v2 M2) (fun r18 M17 => some (r18, M17))) else none))))) else none
set_option maxRecDepth 20000 in
set_option maxHeartbeats 4000000 in
theorem t_X9_median (l : Launch) {v0 : Nat} {v1 : Int32} {v2 : Int32} {M : XM} {q : Int32 × XM} (H : f_X9_median v0 v1 v2 M = some q) : AW l m_X9_median 5 0 0 (x_Ri q) 0 0 0 [some (.ref v0), some (.int v1), some (.int v2)] [] M := by
  unfold f_X9_median at H
  refine x_aload_n 0 0 dX9_median_0 rfl rfl ?_
  refine x_iload_n 1 1 dX9_median_1 rfl rfl ?_
  obtain ⟨h1, H⟩ := x_ckp H
  obtain ⟨r3, M2, e4, H⟩ := x_bd_of H
  refine x_callV 2 104 9 [(.int v1)] [] dX9_median_2 (ct_X9_isCounter l e4) lk_1183 lk_1185 lk_38 (by decide) h1 lk_94 lk_1186 ⟨cn_X9_isCounter, (by decide), by decide⟩ rfl (Nat.le_of_ble_eq_true rfl) (Nat.le_of_ble_eq_true rfl) (Nat.le_of_ble_eq_true rfl) (x_ri ?_)
  refine x_if_ne 5 14 dX9_median_5 (by decide) (fun c5 => ?_) (fun c5 => ?_)
  · replace H := x_ifn c5 H
    refine x_iload_n 14 2 dX9_median_14 rfl rfl ?_
    refine x_iconst 15 (1 : Int32) dX9_median_15 (by decide) ?_
    refine x_icmp_lt 16 34 dX9_median_16 (by decide) (fun c10 => ?_) (fun c10 => ?_)
    · replace H := x_ifp c10 H
      exact x_wk (le_s (le_n (le_n le_0))) (t_X9_median_34 l H)
    · replace H := x_ifn c10 H
      refine x_iload_n 19 2 dX9_median_19 rfl rfl ?_
      refine x_ldc 20 (1000000 : Int32) dX9_median_20 lk_1340 ?_
      refine x_icmp_gt 22 34 dX9_median_22 (by decide) (fun c15 => ?_) (fun c15 => ?_)
      · replace H := x_ifp c15 H
        exact x_wk (le_s (le_n (le_n le_0))) (t_X9_median_34 l H)
      · replace H := x_ifn c15 H
        refine x_aload_n 25 0 dX9_median_25 rfl rfl ?_
        refine x_iload_n 26 1 dX9_median_26 rfl rfl ?_
        refine x_iload_n 27 2 dX9_median_27 rfl rfl ?_
        obtain ⟨h16, H⟩ := x_ckp H
        obtain ⟨r18, M17, e19, H⟩ := x_bd_of H
        refine x_callV 28 239 9 [(.int v1), (.int v2)] [] dX9_median_28 (ct_X9_medianOf l e19) lk_1354 lk_1356 lk_67 (by decide) h16 lk_94 lk_1357 ⟨cn_X9_medianOf, (by decide), by decide⟩ rfl (Nat.le_of_ble_eq_true rfl) (Nat.le_of_ble_eq_true rfl) (Nat.le_of_ble_eq_true rfl) (x_ri ?_)
        refine x_goto 31 40 dX9_median_31 (by decide) ?_
        cases H
        exact x_iret 40 dX9_median_40 .int rfl rfl (Nat.le_of_ble_eq_true rfl) (Nat.le_of_ble_eq_true rfl) ⟨rfl, rfl⟩
  · replace H := x_ifp c5 H
    refine x_aload_n 8 0 dX9_median_8 rfl rfl ?_
    refine x_iconst 9 (-1 : Int32) dX9_median_9 (by decide) ?_
    obtain ⟨h6, H⟩ := x_ckp H
    obtain ⟨r8, M7, e9, H⟩ := x_bd_of H
    refine x_callV 10 212 9 [(.int (-1 : Int32))] [] dX9_median_10 (ct_X9_noTen l e9) lk_1312 lk_1314 lk_59 (by decide) h6 lk_94 lk_1315 ⟨cn_X9_noTen, (by decide), by decide⟩ rfl (Nat.le_of_ble_eq_true rfl) (Nat.le_of_ble_eq_true rfl) (Nat.le_of_ble_eq_true rfl) (x_ri ?_)
    cases H
    exact x_iret 13 dX9_median_13 .int rfl rfl (Nat.le_of_ble_eq_true rfl) (Nat.le_of_ble_eq_true rfl) ⟨rfl, rfl⟩

theorem ct_X9_median (l : Launch) {v0 : Nat} {v1 : Int32} {v2 : Int32} {M : XM} {q : Int32 × XM} (H : f_X9_median v0 v1 v2 M = some q) : Ct l m_X9_median 5 0 0 [(.ref v0), (.int v1), (.int v2)] M (x_Ri q) := x_met l m_X9_median 5 0 0 [(.ref v0), (.int v1), (.int v2)] M (x_Ri q) _ rfl rfl (Nat.le_of_ble_eq_true rfl) (t_X9_median l H)
abbrev m_X9_bestApart : XU := (yX9_bestApart, cX9_bestApart, 8, (some .int))
theorem cn_X9_bestApart : m_X9_bestApart.1.cls ≠ "java/lang/invoke/MethodHandle" ∧ m_X9_bestApart.1.cls ≠ "java/lang/invoke/VarHandle" ∧ (parseMethodDescriptor m_X9_bestApart.1.desc).map (fun q => q.parameters.length) = some 2 := by decide +kernel
def f_X9_bestApart_52 (v0 : Nat) (M : XM) : Option (Int32 × XM) :=
  if x_tag M v0 = 9 + 10 then (x_bd (f_X9_noTen v0 (-6 : Int32) M) (fun r16 M15 => some (r16, M15))) else none
set_option maxRecDepth 20000 in
set_option maxHeartbeats 4000000 in
theorem t_X9_bestApart_52 (l : Launch) {v0 : Nat} {M : XM} {q : Int32 × XM} (H : f_X9_bestApart_52 v0 M = some q) : AW l m_X9_bestApart 5 0 0 (x_Ri q) 0 0 52 [some (.ref v0), none, none, none, none, none, none, none] [] M := by
  unfold f_X9_bestApart_52 at H
  refine x_aload_n 52 0 dX9_bestApart_52 rfl rfl ?_
  refine x_bipush 53 (-6 : Int32) dX9_bestApart_53 (by decide) ?_
  obtain ⟨h14, H⟩ := x_ckp H
  obtain ⟨r16, M15, e17, H⟩ := x_bd_of H
  refine x_callV 55 212 9 [(.int (-6 : Int32))] [] dX9_bestApart_55 (ct_X9_noTen l e17) lk_1312 lk_1314 lk_59 (by decide) h14 lk_94 lk_1315 ⟨cn_X9_noTen, (by decide), by decide⟩ rfl (Nat.le_of_ble_eq_true rfl) (Nat.le_of_ble_eq_true rfl) (Nat.le_of_ble_eq_true rfl) (x_ri ?_)
  cases H
  exact x_iret 58 dX9_bestApart_58 .int rfl rfl (Nat.le_of_ble_eq_true rfl) (Nat.le_of_ble_eq_true rfl) ⟨rfl, rfl⟩

def f_X9_bestApart_145 (κ75 : Nat → Int32 → Int32 → Int32 → Int32 → Int32 → XM → Option (Int32 × XM)) (v0 : Nat) (v1 : Int32) (v2 : Int32) (v3 : Int32) (v4 : Int32) (v5 : Int32) (M : XM) : Option (Int32 × XM) :=
  if x_tag M v0 = 9 + 10 then (x_lt (x_wi M v0 2 ((x_i M v0 2) + (1 : Int32))) (fun M35 => κ75 v0 v1 v2 v3 v4 v5 M35)) else none
set_option maxRecDepth 20000 in
set_option maxHeartbeats 4000000 in
theorem t_X9_bestApart_145 (l : Launch) {κ75 : Nat → Int32 → Int32 → Int32 → Int32 → Int32 → XM → Option (Int32 × XM)} {v0 : Nat} {v1 : Int32} {v2 : Int32} {v3 : Int32} {v4 : Int32} {v5 : Int32} {M : XM} {q : Int32 × XM} (hκ75 : ∀ (v0 : Nat) (v1 : Int32) (v2 : Int32) (v3 : Int32) (v4 : Int32) (v5 : Int32) (M : XM), κ75 v0 v1 v2 v3 v4 v5 M = some q → AW l m_X9_bestApart 5 0 0 (x_Ri q) 0 0 75 [some (.ref v0), some (.int v1), some (.int v2), some (.int v3), some (.int v4), some (.int v5), none, none] [] M) (H : f_X9_bestApart_145 κ75 v0 v1 v2 v3 v4 v5 M = some q) : AW l m_X9_bestApart 5 0 0 (x_Ri q) 0 0 145 [some (.ref v0), some (.int v1), some (.int v2), some (.int v3), some (.int v4), some (.int v5), none, none] [] M := by
  unfold f_X9_bestApart_145 at H
  refine x_aload_n 145 0 dX9_bestApart_145 rfl rfl ?_
  refine x_dup 146 dX9_bestApart_146 rfl ?_
  obtain ⟨h34, H⟩ := x_ckp H
  refine x_getf 147 13 9 2 (.int (x_i M v0 2)) dX9_bestApart_147 lk_1030 (by decide) (by decide) rfl (fun _ => rfl) h34 ?_
  refine x_iconst 150 (1 : Int32) dX9_bestApart_150 (by decide) ?_
  refine x_iadd 151 dX9_bestApart_151 ?_
  obtain ⟨M35, w36, H⟩ := x_lt_of H
  have h37 : x_tag M35 v0 = 9 + 10 := by rw [w36]; exact h34
  refine x_putI' 152 13 9 2 dX9_bestApart_152 lk_1030 (by decide) (by decide) rfl (Or.inl rfl) (Or.inl rfl) h34 w36 ?_
  refine x_goto 155 75 dX9_bestApart_155 (by decide) ?_
  exact hκ75 _ _ _ _ _ _ _ H

def f_X9_bestApart_135 (κ75 : Nat → Int32 → Int32 → Int32 → Int32 → Int32 → XM → Option (Int32 × XM)) (v0 : Nat) (v1 : Int32) (v2 : Int32) (v3 : Int32) (v7 : Int32) (M : XM) : Option (Int32 × XM) :=
  if x_tag M v0 = 9 + 10 then (f_X9_bestApart_145 κ75 v0 v1 v2 v3 (x_i M v0 2) v7 M) else none
set_option maxRecDepth 20000 in
set_option maxHeartbeats 4000000 in
theorem t_X9_bestApart_135 (l : Launch) {κ75 : Nat → Int32 → Int32 → Int32 → Int32 → Int32 → XM → Option (Int32 × XM)} {v0 : Nat} {v1 : Int32} {v2 : Int32} {v3 : Int32} {v7 : Int32} {M : XM} {q : Int32 × XM} (hκ75 : ∀ (v0 : Nat) (v1 : Int32) (v2 : Int32) (v3 : Int32) (v4 : Int32) (v5 : Int32) (M : XM), κ75 v0 v1 v2 v3 v4 v5 M = some q → AW l m_X9_bestApart 5 0 0 (x_Ri q) 0 0 75 [some (.ref v0), some (.int v1), some (.int v2), some (.int v3), some (.int v4), some (.int v5), none, none] [] M) (H : f_X9_bestApart_135 κ75 v0 v1 v2 v3 v7 M = some q) : AW l m_X9_bestApart 5 0 0 (x_Ri q) 0 0 135 [some (.ref v0), some (.int v1), some (.int v2), some (.int v3), none, none, none, some (.int v7)] [] M := by
  unfold f_X9_bestApart_135 at H
  refine x_aload_n 135 0 dX9_bestApart_135 rfl rfl ?_
  obtain ⟨h39, H⟩ := x_ckp H
  refine x_getf 136 13 9 2 (.int (x_i M v0 2)) dX9_bestApart_136 lk_1030 (by decide) (by decide) rfl (fun _ => rfl) h39 ?_
  refine x_istore 139 4 [some (.ref v0), some (.int v1), some (.int v2), some (.int v3), some (.int (x_i M v0 2)), none, none, some (.int v7)] dX9_bestApart_139 rfl (Nat.le_of_ble_eq_true rfl) rfl ?_
  refine x_iload 141 7 dX9_bestApart_141 rfl ?_
  refine x_istore 143 5 [some (.ref v0), some (.int v1), some (.int v2), some (.int v3), some (.int (x_i M v0 2)), some (.int v7), none, some (.int v7)] dX9_bestApart_143 rfl (Nat.le_of_ble_eq_true rfl) rfl ?_
  exact x_wk (le_s (le_s (le_s (le_s (le_s (le_s (le_s (le_n le_0)))))))) (t_X9_bestApart_145 l hκ75 H)

def bd_X9_bestApart_75 (κ75 : Nat → Int32 → Int32 → Int32 → Int32 → Int32 → XM → Option (Int32 × XM)) (v0 : Nat) (v1 : Int32) (v2 : Int32) (v3 : Int32) (v4 : Int32) (v5 : Int32) (M : XM) : Option (Int32 × XM) :=
  if x_tag M v0 = 9 + 10 then (if (x_i M v0 1) < (x_i M v0 2) then (x_lt (x_wi M v0 2 v3) (fun M25 => some (v4, M25))) else (x_bd (f_X9_medianOf v0 v1 v2 M) (fun r29 M28 => if x_tag M28 v0 = 9 + 10 then (if (x_i M28 v0 2) = 0 then none else if r29 = (-1 : Int32) then (f_X9_bestApart_145 κ75 v0 v1 v2 v3 v4 v5 M28) else (if v4 = (-1 : Int32) then (f_X9_bestApart_135 κ75 v0 v1 v2 v3 (r29 + ((x_i M28 v0 4) * ((x_i M28 v0 1) / (x_i M28 v0 2)))) M28) else (if (r29 + ((x_i M28 v0 4) * ((x_i M28 v0 1) / (x_i M28 v0 2)))) < v5 then (f_X9_bestApart_135 κ75 v0 v1 v2 v3 (r29 + ((x_i M28 v0 4) * ((x_i M28 v0 1) / (x_i M28 v0 2)))) M28) else (f_X9_bestApart_145 κ75 v0 v1 v2 v3 v4 v5 M28)))) else none))) else none
set_option maxRecDepth 20000 in
set_option maxHeartbeats 4000000 in
theorem tb_X9_bestApart_75 (l : Launch) {κ75 : Nat → Int32 → Int32 → Int32 → Int32 → Int32 → XM → Option (Int32 × XM)} {v0 : Nat} {v1 : Int32} {v2 : Int32} {v3 : Int32} {v4 : Int32} {v5 : Int32} {M : XM} {q : Int32 × XM} (hκ75 : ∀ (v0 : Nat) (v1 : Int32) (v2 : Int32) (v3 : Int32) (v4 : Int32) (v5 : Int32) (M : XM), κ75 v0 v1 v2 v3 v4 v5 M = some q → AW l m_X9_bestApart 5 0 0 (x_Ri q) 0 0 75 [some (.ref v0), some (.int v1), some (.int v2), some (.int v3), some (.int v4), some (.int v5), none, none] [] M) (H : bd_X9_bestApart_75 κ75 v0 v1 v2 v3 v4 v5 M = some q) : AW l m_X9_bestApart 5 0 0 (x_Ri q) 0 0 75 [some (.ref v0), some (.int v1), some (.int v2), some (.int v3), some (.int v4), some (.int v5), none, none] [] M := by
  unfold bd_X9_bestApart_75 at H
  refine x_aload_n 75 0 dX9_bestApart_75 rfl rfl ?_
  obtain ⟨h23, H⟩ := x_ckp H
  refine x_getf 76 13 9 2 (.int (x_i M v0 2)) dX9_bestApart_76 lk_1030 (by decide) (by decide) rfl (fun _ => rfl) h23 ?_
  refine x_aload_n 79 0 dX9_bestApart_79 rfl rfl ?_
  refine x_getf 80 7 9 1 (.int (x_i M v0 1)) dX9_bestApart_80 lk_1029 (by decide) (by decide) rfl (fun _ => rfl) h23 ?_
  refine x_icmp_gt 83 158 dX9_bestApart_83 (by decide) (fun c24 => ?_) (fun c24 => ?_)
  · replace H := x_ifp c24 H
    refine x_aload_n 158 0 dX9_bestApart_158 rfl rfl ?_
    refine x_iload_n 159 3 dX9_bestApart_159 rfl rfl ?_
    obtain ⟨M25, w26, H⟩ := x_lt_of H
    have h27 : x_tag M25 v0 = 9 + 10 := by rw [w26]; exact h23
    refine x_putI' 160 13 9 2 dX9_bestApart_160 lk_1030 (by decide) (by decide) rfl (Or.inl rfl) (Or.inl rfl) h23 w26 ?_
    refine x_iload 163 4 dX9_bestApart_163 rfl ?_
    cases H
    exact x_iret 165 dX9_bestApart_165 .int rfl rfl (Nat.le_of_ble_eq_true rfl) (Nat.le_of_ble_eq_true rfl) ⟨rfl, rfl⟩
  · replace H := x_ifn c24 H
    refine x_aload_n 86 0 dX9_bestApart_86 rfl rfl ?_
    refine x_iload_n 87 1 dX9_bestApart_87 rfl rfl ?_
    refine x_iload_n 88 2 dX9_bestApart_88 rfl rfl ?_
    obtain ⟨r29, M28, e30, H⟩ := x_bd_of H
    refine x_callV 89 239 9 [(.int v1), (.int v2)] [] dX9_bestApart_89 (ct_X9_medianOf l e30) lk_1354 lk_1356 lk_67 (by decide) h23 lk_94 lk_1357 ⟨cn_X9_medianOf, (by decide), by decide⟩ rfl (Nat.le_of_ble_eq_true rfl) (Nat.le_of_ble_eq_true rfl) (Nat.le_of_ble_eq_true rfl) (x_ri ?_)
    refine x_istore 92 6 [some (.ref v0), some (.int v1), some (.int v2), some (.int v3), some (.int v4), some (.int v5), some (.int r29), none] dX9_bestApart_92 rfl (Nat.le_of_ble_eq_true rfl) rfl ?_
    refine x_iload 94 6 dX9_bestApart_94 rfl ?_
    refine x_aload_n 96 0 dX9_bestApart_96 rfl rfl ?_
    obtain ⟨h31, H⟩ := x_ckp H
    refine x_getf 97 19 9 4 (.int (x_i M28 v0 4)) dX9_bestApart_97 lk_1032 (by decide) (by decide) rfl (fun _ => rfl) h31 ?_
    refine x_aload_n 100 0 dX9_bestApart_100 rfl rfl ?_
    refine x_getf 101 7 9 1 (.int (x_i M28 v0 1)) dX9_bestApart_101 lk_1029 (by decide) (by decide) rfl (fun _ => rfl) h31 ?_
    refine x_aload_n 104 0 dX9_bestApart_104 rfl rfl ?_
    refine x_getf 105 13 9 2 (.int (x_i M28 v0 2)) dX9_bestApart_105 lk_1030 (by decide) (by decide) rfl (fun _ => rfl) h31 ?_
    obtain ⟨h32, H⟩ := x_cnz H
    refine x_idiv 108 dX9_bestApart_108 h32 ?_
    refine x_imul 109 dX9_bestApart_109 ?_
    refine x_iadd 110 dX9_bestApart_110 ?_
    refine x_istore 111 7 [some (.ref v0), some (.int v1), some (.int v2), some (.int v3), some (.int v4), some (.int v5), some (.int r29), some (.int (r29 + ((x_i M28 v0 4) * ((x_i M28 v0 1) / (x_i M28 v0 2)))))] dX9_bestApart_111 rfl (Nat.le_of_ble_eq_true rfl) rfl ?_
    refine x_iload 113 6 dX9_bestApart_113 rfl ?_
    refine x_iconst 115 (-1 : Int32) dX9_bestApart_115 (by decide) ?_
    refine x_icmp_eq 116 145 dX9_bestApart_116 (by decide) (fun c33 => ?_) (fun c33 => ?_)
    · replace H := x_ifp c33 H
      exact x_wk (le_s (le_s (le_s (le_s (le_s (le_s (le_n (le_n le_0)))))))) (t_X9_bestApart_145 l hκ75 H)
    · replace H := x_ifn c33 H
      refine x_iload 119 4 dX9_bestApart_119 rfl ?_
      refine x_iconst 121 (-1 : Int32) dX9_bestApart_121 (by decide) ?_
      refine x_icmp_eq 122 135 dX9_bestApart_122 (by decide) (fun c38 => ?_) (fun c38 => ?_)
      · replace H := x_ifp c38 H
        exact x_wk (le_s (le_s (le_s (le_s (le_n (le_n (le_n (le_s le_0)))))))) (t_X9_bestApart_135 l hκ75 H)
      · replace H := x_ifn c38 H
        refine x_iload 125 7 dX9_bestApart_125 rfl ?_
        refine x_iload 127 5 dX9_bestApart_127 rfl ?_
        refine x_icmp_lt 129 135 dX9_bestApart_129 (by decide) (fun c40 => ?_) (fun c40 => ?_)
        · replace H := x_ifp c40 H
          exact x_wk (le_s (le_s (le_s (le_s (le_n (le_n (le_n (le_s le_0)))))))) (t_X9_bestApart_135 l hκ75 H)
        · replace H := x_ifn c40 H
          refine x_goto 132 145 dX9_bestApart_132 (by decide) ?_
          exact x_wk (le_s (le_s (le_s (le_s (le_s (le_s (le_n (le_n le_0)))))))) (t_X9_bestApart_145 l hκ75 H)

def lp_X9_bestApart_75 (n : Nat) : Nat → Int32 → Int32 → Int32 → Int32 → Int32 → XM → Option (Int32 × XM) := x_rec (fun _ _ _ _ _ _ _ => none) (bd_X9_bestApart_75) n
theorem t_X9_bestApart_75 (l : Launch) {q : Int32 × XM} : ∀ (n : Nat) (v0 : Nat) (v1 : Int32) (v2 : Int32) (v3 : Int32) (v4 : Int32) (v5 : Int32) (M : XM), lp_X9_bestApart_75 n v0 v1 v2 v3 v4 v5 M = some q → AW l m_X9_bestApart 5 0 0 (x_Ri q) 0 0 75 [some (.ref v0), some (.int v1), some (.int v2), some (.int v3), some (.int v4), some (.int v5), none, none] [] M := by
  intro n
  induction n with
  | zero => intro v0 v1 v2 v3 v4 v5 M H; cases H
  | succ n ih => intro v0 v1 v2 v3 v4 v5 M H; exact tb_X9_bestApart_75 l ih H
def f_X9_bestApart_41 (v0 : Nat) (v1 : Int32) (v2 : Int32) (M : XM) : Option (Int32 × XM) :=
  if v2 < (1 : Int32) then (f_X9_bestApart_52 v0 M) else (if v2 ≤ (1000000 : Int32) then (if x_tag M v0 = 9 + 10 then (x_lt (x_wi M v0 2 (1 : Int32)) (fun M20 => lp_X9_bestApart_75 x_fuel v0 v1 v2 (x_i M v0 2) (-1 : Int32) (0 : Int32) M20)) else none) else (f_X9_bestApart_52 v0 M))
set_option maxRecDepth 20000 in
set_option maxHeartbeats 4000000 in
theorem t_X9_bestApart_41 (l : Launch) {v0 : Nat} {v1 : Int32} {v2 : Int32} {M : XM} {q : Int32 × XM} (H : f_X9_bestApart_41 v0 v1 v2 M = some q) : AW l m_X9_bestApart 5 0 0 (x_Ri q) 0 0 41 [some (.ref v0), some (.int v1), some (.int v2), none, none, none, none, none] [] M := by
  unfold f_X9_bestApart_41 at H
  refine x_iload_n 41 2 dX9_bestApart_41 rfl rfl ?_
  refine x_iconst 42 (1 : Int32) dX9_bestApart_42 (by decide) ?_
  refine x_icmp_lt 43 52 dX9_bestApart_43 (by decide) (fun c13 => ?_) (fun c13 => ?_)
  · replace H := x_ifp c13 H
    exact x_wk (le_s (le_n (le_n (le_s (le_s (le_s (le_s (le_s le_0)))))))) (t_X9_bestApart_52 l H)
  · replace H := x_ifn c13 H
    refine x_iload_n 46 2 dX9_bestApart_46 rfl rfl ?_
    refine x_ldc 47 (1000000 : Int32) dX9_bestApart_47 lk_1340 ?_
    refine x_icmp_le 49 59 dX9_bestApart_49 (by decide) (fun c18 => ?_) (fun c18 => ?_)
    · replace H := x_ifp c18 H
      refine x_aload_n 59 0 dX9_bestApart_59 rfl rfl ?_
      obtain ⟨h19, H⟩ := x_ckp H
      refine x_getf 60 13 9 2 (.int (x_i M v0 2)) dX9_bestApart_60 lk_1030 (by decide) (by decide) rfl (fun _ => rfl) h19 ?_
      refine x_istore_n 63 3 [some (.ref v0), some (.int v1), some (.int v2), some (.int (x_i M v0 2)), none, none, none, none] dX9_bestApart_63 rfl rfl (Nat.le_of_ble_eq_true rfl) rfl ?_
      refine x_iconst 64 (-1 : Int32) dX9_bestApart_64 (by decide) ?_
      refine x_istore 65 4 [some (.ref v0), some (.int v1), some (.int v2), some (.int (x_i M v0 2)), some (.int (-1 : Int32)), none, none, none] dX9_bestApart_65 rfl (Nat.le_of_ble_eq_true rfl) rfl ?_
      refine x_iconst 67 (0 : Int32) dX9_bestApart_67 (by decide) ?_
      refine x_istore 68 5 [some (.ref v0), some (.int v1), some (.int v2), some (.int (x_i M v0 2)), some (.int (-1 : Int32)), some (.int (0 : Int32)), none, none] dX9_bestApart_68 rfl (Nat.le_of_ble_eq_true rfl) rfl ?_
      refine x_aload_n 70 0 dX9_bestApart_70 rfl rfl ?_
      refine x_iconst 71 (1 : Int32) dX9_bestApart_71 (by decide) ?_
      obtain ⟨M20, w21, H⟩ := x_lt_of H
      have h22 : x_tag M20 v0 = 9 + 10 := by rw [w21]; exact h19
      refine x_putI' 72 13 9 2 dX9_bestApart_72 lk_1030 (by decide) (by decide) rfl (Or.inl rfl) (Or.inl rfl) h19 w21 ?_
      exact t_X9_bestApart_75 l _ _ _ _ _ _ _ _ H
    · replace H := x_ifn c18 H
      exact x_wk (le_s (le_n (le_n (le_s (le_s (le_s (le_s (le_s le_0)))))))) (t_X9_bestApart_52 l H)

def f_X9_bestApart (v0 : Nat) (v1 : Int32) (v2 : Int32) (M : XM) : Option (Int32 × XM) :=
  if x_tag M v0 = 9 + 10 then (x_bd (f_X9_isCounter v0 v1 M) (fun r3 M2 => if r3 = 0 then (if x_tag M2 v0 = 9 + 10 then (x_bd (f_X9_noTen v0 (-1 : Int32) M2) (fun r8 M7 => some (r8, M7))) else none) else (if x_tag M2 v0 = 9 + 10 then (if x_at M2 (x_r M2 v0 10) 1 v1 = true then (if (x_i M2 (x_r M2 v0 10) v1.toNatClampNeg) = (1 : Int32) then (f_X9_bestApart_41 v0 v1 v2 M2) else (if (x_i M2 (x_r M2 v0 10) v1.toNatClampNeg) = (5 : Int32) then (f_X9_bestApart_41 v0 v1 v2 M2) else (x_bd (f_X9_noTen v0 (-2 : Int32) M2) (fun r43 M42 => some (r43, M42))))) else none) else none))) else none
set_option maxRecDepth 20000 in
set_option maxHeartbeats 4000000 in
theorem t_X9_bestApart (l : Launch) {v0 : Nat} {v1 : Int32} {v2 : Int32} {M : XM} {q : Int32 × XM} (H : f_X9_bestApart v0 v1 v2 M = some q) : AW l m_X9_bestApart 5 0 0 (x_Ri q) 0 0 0 [some (.ref v0), some (.int v1), some (.int v2), none, none, none, none, none] [] M := by
  unfold f_X9_bestApart at H
  refine x_aload_n 0 0 dX9_bestApart_0 rfl rfl ?_
  refine x_iload_n 1 1 dX9_bestApart_1 rfl rfl ?_
  obtain ⟨h1, H⟩ := x_ckp H
  obtain ⟨r3, M2, e4, H⟩ := x_bd_of H
  refine x_callV 2 104 9 [(.int v1)] [] dX9_bestApart_2 (ct_X9_isCounter l e4) lk_1183 lk_1185 lk_38 (by decide) h1 lk_94 lk_1186 ⟨cn_X9_isCounter, (by decide), by decide⟩ rfl (Nat.le_of_ble_eq_true rfl) (Nat.le_of_ble_eq_true rfl) (Nat.le_of_ble_eq_true rfl) (x_ri ?_)
  refine x_if_ne 5 14 dX9_bestApart_5 (by decide) (fun c5 => ?_) (fun c5 => ?_)
  · replace H := x_ifn c5 H
    refine x_aload_n 14 0 dX9_bestApart_14 rfl rfl ?_
    obtain ⟨h10, H⟩ := x_ckp H
    refine x_getf 15 32 9 10 (.ref (x_r M2 v0 10)) dX9_bestApart_15 lk_1038 (by decide) (by decide) rfl (fun _ => rfl) h10 ?_
    refine x_iload_n 18 1 dX9_bestApart_18 rfl rfl ?_
    obtain ⟨h11, H⟩ := x_ckp H
    refine x_iald 19 dX9_bestApart_19 h11 ?_
    refine x_iconst 20 (1 : Int32) dX9_bestApart_20 (by decide) ?_
    refine x_icmp_eq 21 41 dX9_bestApart_21 (by decide) (fun c12 => ?_) (fun c12 => ?_)
    · replace H := x_ifp c12 H
      exact t_X9_bestApart_41 l H
    · replace H := x_ifn c12 H
      refine x_aload_n 24 0 dX9_bestApart_24 rfl rfl ?_
      refine x_getf 25 32 9 10 (.ref (x_r M2 v0 10)) dX9_bestApart_25 lk_1038 (by decide) (by decide) rfl (fun _ => rfl) h10 ?_
      refine x_iload_n 28 1 dX9_bestApart_28 rfl rfl ?_
      refine x_iald 29 dX9_bestApart_29 h11 ?_
      refine x_iconst 30 (5 : Int32) dX9_bestApart_30 (by decide) ?_
      refine x_icmp_eq 31 41 dX9_bestApart_31 (by decide) (fun c41 => ?_) (fun c41 => ?_)
      · replace H := x_ifp c41 H
        exact t_X9_bestApart_41 l H
      · replace H := x_ifn c41 H
        refine x_aload_n 34 0 dX9_bestApart_34 rfl rfl ?_
        refine x_bipush 35 (-2 : Int32) dX9_bestApart_35 (by decide) ?_
        obtain ⟨r43, M42, e44, H⟩ := x_bd_of H
        refine x_callV 37 212 9 [(.int (-2 : Int32))] [] dX9_bestApart_37 (ct_X9_noTen l e44) lk_1312 lk_1314 lk_59 (by decide) h10 lk_94 lk_1315 ⟨cn_X9_noTen, (by decide), by decide⟩ rfl (Nat.le_of_ble_eq_true rfl) (Nat.le_of_ble_eq_true rfl) (Nat.le_of_ble_eq_true rfl) (x_ri ?_)
        cases H
        exact x_iret 40 dX9_bestApart_40 .int rfl rfl (Nat.le_of_ble_eq_true rfl) (Nat.le_of_ble_eq_true rfl) ⟨rfl, rfl⟩
  · replace H := x_ifp c5 H
    refine x_aload_n 8 0 dX9_bestApart_8 rfl rfl ?_
    refine x_iconst 9 (-1 : Int32) dX9_bestApart_9 (by decide) ?_
    obtain ⟨h6, H⟩ := x_ckp H
    obtain ⟨r8, M7, e9, H⟩ := x_bd_of H
    refine x_callV 10 212 9 [(.int (-1 : Int32))] [] dX9_bestApart_10 (ct_X9_noTen l e9) lk_1312 lk_1314 lk_59 (by decide) h6 lk_94 lk_1315 ⟨cn_X9_noTen, (by decide), by decide⟩ rfl (Nat.le_of_ble_eq_true rfl) (Nat.le_of_ble_eq_true rfl) (Nat.le_of_ble_eq_true rfl) (x_ri ?_)
    cases H
    exact x_iret 13 dX9_bestApart_13 .int rfl rfl (Nat.le_of_ble_eq_true rfl) (Nat.le_of_ble_eq_true rfl) ⟨rfl, rfl⟩

theorem ct_X9_bestApart (l : Launch) {v0 : Nat} {v1 : Int32} {v2 : Int32} {M : XM} {q : Int32 × XM} (H : f_X9_bestApart v0 v1 v2 M = some q) : Ct l m_X9_bestApart 5 0 0 [(.ref v0), (.int v1), (.int v2)] M (x_Ri q) := x_met l m_X9_bestApart 5 0 0 [(.ref v0), (.int v1), (.int v2)] M (x_Ri q) _ rfl rfl (Nat.le_of_ble_eq_true rfl) (t_X9_bestApart l H)
abbrev m_X9_surest : XU := (yX9_surest, cX9_surest, 6, (some .int))
theorem cn_X9_surest : m_X9_surest.1.cls ≠ "java/lang/invoke/MethodHandle" ∧ m_X9_surest.1.cls ≠ "java/lang/invoke/VarHandle" ∧ (parseMethodDescriptor m_X9_surest.1.desc).map (fun q => q.parameters.length) = some 1 := by decide +kernel
def f_X9_surest_25 (v0 : Nat) (M : XM) : Option (Int32 × XM) :=
  if x_tag M v0 = 9 + 10 then (x_bd (f_X9_no v0 (-6 : Int32) M) (fun r9 M8 => some (r9, M8))) else none
set_option maxRecDepth 20000 in
set_option maxHeartbeats 4000000 in
theorem t_X9_surest_25 (l : Launch) {v0 : Nat} {M : XM} {q : Int32 × XM} (H : f_X9_surest_25 v0 M = some q) : AW l m_X9_surest 5 0 0 (x_Ri q) 0 0 25 [some (.ref v0), none, none, none, none, none] [] M := by
  unfold f_X9_surest_25 at H
  refine x_aload_n 25 0 dX9_surest_25 rfl rfl ?_
  refine x_bipush 26 (-6 : Int32) dX9_surest_26 (by decide) ?_
  obtain ⟨h7, H⟩ := x_ckp H
  obtain ⟨r9, M8, e10, H⟩ := x_bd_of H
  refine x_callV 28 100 9 [(.int (-6 : Int32))] [] dX9_surest_28 (ct_X9_no l e10) lk_1163 lk_1165 lk_37 (by decide) h7 lk_94 lk_1166 ⟨cn_X9_no, (by decide), by decide⟩ rfl (Nat.le_of_ble_eq_true rfl) (Nat.le_of_ble_eq_true rfl) (Nat.le_of_ble_eq_true rfl) (x_ri ?_)
  cases H
  exact x_iret 31 dX9_surest_31 .int rfl rfl (Nat.le_of_ble_eq_true rfl) (Nat.le_of_ble_eq_true rfl) ⟨rfl, rfl⟩

def f_X9_surest_72 (κ39 : Nat → Int32 → Int32 → Int32 → Int32 → XM → Option (Int32 × XM)) (v0 : Nat) (v1 : Int32) (v2 : Int32) (v3 : Int32) (v4 : Int32) (M : XM) : Option (Int32 × XM) :=
  κ39 v0 v1 v2 v3 (v4 + (1 : Int32)) M
set_option maxRecDepth 20000 in
set_option maxHeartbeats 4000000 in
theorem t_X9_surest_72 (l : Launch) {κ39 : Nat → Int32 → Int32 → Int32 → Int32 → XM → Option (Int32 × XM)} {v0 : Nat} {v1 : Int32} {v2 : Int32} {v3 : Int32} {v4 : Int32} {M : XM} {q : Int32 × XM} (hκ39 : ∀ (v0 : Nat) (v1 : Int32) (v2 : Int32) (v3 : Int32) (v4 : Int32) (M : XM), κ39 v0 v1 v2 v3 v4 M = some q → AW l m_X9_surest 5 0 0 (x_Ri q) 0 0 39 [some (.ref v0), some (.int v1), some (.int v2), some (.int v3), some (.int v4), none] [] M) (H : f_X9_surest_72 κ39 v0 v1 v2 v3 v4 M = some q) : AW l m_X9_surest 5 0 0 (x_Ri q) 0 0 72 [some (.ref v0), some (.int v1), some (.int v2), some (.int v3), some (.int v4), none] [] M := by
  unfold f_X9_surest_72 at H
  refine x_iinc 72 4 (v4 + (1 : Int32)) [some (.ref v0), some (.int v1), some (.int v2), some (.int v3), some (.int (v4 + (1 : Int32))), none] dX9_surest_72 rfl (congrArg (fun z : Int32 => v4 + z) (show Int32.ofInt (1) = (1 : Int32) by decide)) rfl (Nat.le_of_ble_eq_true rfl) rfl ?_
  refine x_goto 75 39 dX9_surest_75 (by decide) ?_
  exact hκ39 _ _ _ _ _ _ H

def bd_X9_surest_39 (κ39 : Nat → Int32 → Int32 → Int32 → Int32 → XM → Option (Int32 × XM)) (v0 : Nat) (v1 : Int32) (v2 : Int32) (v3 : Int32) (v4 : Int32) (M : XM) : Option (Int32 × XM) :=
  if x_tag M v0 = 9 + 10 then (if (x_i M v0 0) ≤ v4 then (some (v2, M)) else (x_bd (f_X9_chanceOf v0 v4 v1 M) (fun r15 M14 => if v3 < r15 then (f_X9_surest_72 κ39 v0 v1 v4 r15 v4 M14) else (f_X9_surest_72 κ39 v0 v1 v2 v3 v4 M14)))) else none
set_option maxRecDepth 20000 in
set_option maxHeartbeats 4000000 in
theorem tb_X9_surest_39 (l : Launch) {κ39 : Nat → Int32 → Int32 → Int32 → Int32 → XM → Option (Int32 × XM)} {v0 : Nat} {v1 : Int32} {v2 : Int32} {v3 : Int32} {v4 : Int32} {M : XM} {q : Int32 × XM} (hκ39 : ∀ (v0 : Nat) (v1 : Int32) (v2 : Int32) (v3 : Int32) (v4 : Int32) (M : XM), κ39 v0 v1 v2 v3 v4 M = some q → AW l m_X9_surest 5 0 0 (x_Ri q) 0 0 39 [some (.ref v0), some (.int v1), some (.int v2), some (.int v3), some (.int v4), none] [] M) (H : bd_X9_surest_39 κ39 v0 v1 v2 v3 v4 M = some q) : AW l m_X9_surest 5 0 0 (x_Ri q) 0 0 39 [some (.ref v0), some (.int v1), some (.int v2), some (.int v3), some (.int v4), none] [] M := by
  unfold bd_X9_surest_39 at H
  refine x_iload 39 4 dX9_surest_39 rfl ?_
  refine x_aload_n 41 0 dX9_surest_41 rfl rfl ?_
  obtain ⟨h12, H⟩ := x_ckp H
  refine x_getf 42 93 9 0 (.int (x_i M v0 0)) dX9_surest_42 lk_1028 (by decide) (by decide) rfl (fun _ => rfl) h12 ?_
  refine x_icmp_ge 45 78 dX9_surest_45 (by decide) (fun c13 => ?_) (fun c13 => ?_)
  · replace H := x_ifp c13 H
    refine x_iload_n 78 2 dX9_surest_78 rfl rfl ?_
    cases H
    exact x_iret 79 dX9_surest_79 .int rfl rfl (Nat.le_of_ble_eq_true rfl) (Nat.le_of_ble_eq_true rfl) ⟨rfl, rfl⟩
  · replace H := x_ifn c13 H
    refine x_aload_n 48 0 dX9_surest_48 rfl rfl ?_
    refine x_iload 49 4 dX9_surest_49 rfl ?_
    refine x_iload_n 51 1 dX9_surest_51 rfl rfl ?_
    obtain ⟨r15, M14, e16, H⟩ := x_bd_of H
    refine x_callV 52 236 9 [(.int v4), (.int v1)] [] dX9_surest_52 (ct_X9_chanceOf l e16) lk_1324 lk_1326 lk_61 (by decide) h12 lk_94 lk_1327 ⟨cn_X9_chanceOf, (by decide), by decide⟩ rfl (Nat.le_of_ble_eq_true rfl) (Nat.le_of_ble_eq_true rfl) (Nat.le_of_ble_eq_true rfl) (x_ri ?_)
    refine x_istore 55 5 [some (.ref v0), some (.int v1), some (.int v2), some (.int v3), some (.int v4), some (.int r15)] dX9_surest_55 rfl (Nat.le_of_ble_eq_true rfl) rfl ?_
    refine x_iload 57 5 dX9_surest_57 rfl ?_
    refine x_iload_n 59 3 dX9_surest_59 rfl rfl ?_
    refine x_icmp_gt 60 66 dX9_surest_60 (by decide) (fun c17 => ?_) (fun c17 => ?_)
    · replace H := x_ifp c17 H
      refine x_iload 66 4 dX9_surest_66 rfl ?_
      refine x_istore_n 68 2 [some (.ref v0), some (.int v1), some (.int v4), some (.int v3), some (.int v4), some (.int r15)] dX9_surest_68 rfl rfl (Nat.le_of_ble_eq_true rfl) rfl ?_
      refine x_iload 69 5 dX9_surest_69 rfl ?_
      refine x_istore_n 71 3 [some (.ref v0), some (.int v1), some (.int v4), some (.int r15), some (.int v4), some (.int r15)] dX9_surest_71 rfl rfl (Nat.le_of_ble_eq_true rfl) rfl ?_
      exact x_wk (le_s (le_s (le_s (le_s (le_s (le_n le_0)))))) (t_X9_surest_72 l hκ39 H)
    · replace H := x_ifn c17 H
      refine x_goto 63 72 dX9_surest_63 (by decide) ?_
      exact x_wk (le_s (le_s (le_s (le_s (le_s (le_n le_0)))))) (t_X9_surest_72 l hκ39 H)

def lp_X9_surest_39 (n : Nat) : Nat → Int32 → Int32 → Int32 → Int32 → XM → Option (Int32 × XM) := x_rec (fun _ _ _ _ _ _ => none) (bd_X9_surest_39) n
theorem t_X9_surest_39 (l : Launch) {q : Int32 × XM} : ∀ (n : Nat) (v0 : Nat) (v1 : Int32) (v2 : Int32) (v3 : Int32) (v4 : Int32) (M : XM), lp_X9_surest_39 n v0 v1 v2 v3 v4 M = some q → AW l m_X9_surest 5 0 0 (x_Ri q) 0 0 39 [some (.ref v0), some (.int v1), some (.int v2), some (.int v3), some (.int v4), none] [] M := by
  intro n
  induction n with
  | zero => intro v0 v1 v2 v3 v4 M H; cases H
  | succ n ih => intro v0 v1 v2 v3 v4 M H; exact tb_X9_surest_39 l ih H
def f_X9_surest (v0 : Nat) (v1 : Int32) (M : XM) : Option (Int32 × XM) :=
  if x_tag M v0 = 9 + 10 then (if (x_i M v0 0) = 0 then (x_bd (f_X9_no v0 (-5 : Int32) M) (fun r4 M3 => some (r4, M3))) else (if v1 < 0 then (f_X9_surest_25 v0 M) else (if v1 ≤ (400 : Int32) then (lp_X9_surest_39 x_fuel v0 v1 (0 : Int32) (-1 : Int32) (0 : Int32) M) else (f_X9_surest_25 v0 M)))) else none
set_option maxRecDepth 20000 in
set_option maxHeartbeats 4000000 in
theorem t_X9_surest (l : Launch) {v0 : Nat} {v1 : Int32} {M : XM} {q : Int32 × XM} (H : f_X9_surest v0 v1 M = some q) : AW l m_X9_surest 5 0 0 (x_Ri q) 0 0 0 [some (.ref v0), some (.int v1), none, none, none, none] [] M := by
  unfold f_X9_surest at H
  refine x_aload_n 0 0 dX9_surest_0 rfl rfl ?_
  obtain ⟨h1, H⟩ := x_ckp H
  refine x_getf 1 93 9 0 (.int (x_i M v0 0)) dX9_surest_1 lk_1028 (by decide) (by decide) rfl (fun _ => rfl) h1 ?_
  refine x_if_ne 4 14 dX9_surest_4 (by decide) (fun c2 => ?_) (fun c2 => ?_)
  · replace H := x_ifn c2 H
    refine x_iload_n 14 1 dX9_surest_14 rfl rfl ?_
    refine x_if_lt 15 25 dX9_surest_15 (by decide) (fun c6 => ?_) (fun c6 => ?_)
    · replace H := x_ifp c6 H
      exact x_wk (le_s (le_n (le_s (le_s (le_s (le_s le_0)))))) (t_X9_surest_25 l H)
    · replace H := x_ifn c6 H
      refine x_iload_n 18 1 dX9_surest_18 rfl rfl ?_
      refine x_sipush 19 (400 : Int32) dX9_surest_19 (by decide) ?_
      refine x_icmp_le 22 32 dX9_surest_22 (by decide) (fun c11 => ?_) (fun c11 => ?_)
      · replace H := x_ifp c11 H
        refine x_iconst 32 (0 : Int32) dX9_surest_32 (by decide) ?_
        refine x_istore_n 33 2 [some (.ref v0), some (.int v1), some (.int (0 : Int32)), none, none, none] dX9_surest_33 rfl rfl (Nat.le_of_ble_eq_true rfl) rfl ?_
        refine x_iconst 34 (-1 : Int32) dX9_surest_34 (by decide) ?_
        refine x_istore_n 35 3 [some (.ref v0), some (.int v1), some (.int (0 : Int32)), some (.int (-1 : Int32)), none, none] dX9_surest_35 rfl rfl (Nat.le_of_ble_eq_true rfl) rfl ?_
        refine x_iconst 36 (0 : Int32) dX9_surest_36 (by decide) ?_
        refine x_istore 37 4 [some (.ref v0), some (.int v1), some (.int (0 : Int32)), some (.int (-1 : Int32)), some (.int (0 : Int32)), none] dX9_surest_37 rfl (Nat.le_of_ble_eq_true rfl) rfl ?_
        exact t_X9_surest_39 l _ _ _ _ _ _ _ H
      · replace H := x_ifn c11 H
        exact x_wk (le_s (le_n (le_s (le_s (le_s (le_s le_0)))))) (t_X9_surest_25 l H)
  · replace H := x_ifp c2 H
    refine x_aload_n 7 0 dX9_surest_7 rfl rfl ?_
    refine x_bipush 8 (-5 : Int32) dX9_surest_8 (by decide) ?_
    obtain ⟨r4, M3, e5, H⟩ := x_bd_of H
    refine x_callV 10 100 9 [(.int (-5 : Int32))] [] dX9_surest_10 (ct_X9_no l e5) lk_1163 lk_1165 lk_37 (by decide) h1 lk_94 lk_1166 ⟨cn_X9_no, (by decide), by decide⟩ rfl (Nat.le_of_ble_eq_true rfl) (Nat.le_of_ble_eq_true rfl) (Nat.le_of_ble_eq_true rfl) (x_ri ?_)
    cases H
    exact x_iret 13 dX9_surest_13 .int rfl rfl (Nat.le_of_ble_eq_true rfl) (Nat.le_of_ble_eq_true rfl) ⟨rfl, rfl⟩

theorem ct_X9_surest (l : Launch) {v0 : Nat} {v1 : Int32} {M : XM} {q : Int32 × XM} (H : f_X9_surest v0 v1 M = some q) : Ct l m_X9_surest 5 0 0 [(.ref v0), (.int v1)] M (x_Ri q) := x_met l m_X9_surest 5 0 0 [(.ref v0), (.int v1)] M (x_Ri q) _ rfl rfl (Nat.le_of_ble_eq_true rfl) (t_X9_surest l H)
abbrev m_X9_throughWith : XU := (yX9_throughWith, cX9_throughWith, 5, (some .int))
theorem cn_X9_throughWith : m_X9_throughWith.1.cls ≠ "java/lang/invoke/MethodHandle" ∧ m_X9_throughWith.1.cls ≠ "java/lang/invoke/VarHandle" ∧ (parseMethodDescriptor m_X9_throughWith.1.desc).map (fun q => q.parameters.length) = some 2 := by decide +kernel
def f_X9_throughWith_47 (κ10 : Nat → Int32 → Int32 → Int32 → Int32 → XM → Option (Int32 × XM)) (v0 : Nat) (v1 : Int32) (v2 : Int32) (v4 : Int32) (s0 : Int32) (M : XM) : Option (Int32 × XM) :=
  κ10 v0 v1 v2 s0 v4 M
set_option maxRecDepth 20000 in
set_option maxHeartbeats 4000000 in
theorem t_X9_throughWith_47 (l : Launch) {κ10 : Nat → Int32 → Int32 → Int32 → Int32 → XM → Option (Int32 × XM)} {v0 : Nat} {v1 : Int32} {v2 : Int32} {v4 : Int32} {s0 : Int32} {M : XM} {q : Int32 × XM} (hκ10 : ∀ (v0 : Nat) (v1 : Int32) (v2 : Int32) (v3 : Int32) (v4 : Int32) (M : XM), κ10 v0 v1 v2 v3 v4 M = some q → AW l m_X9_throughWith 2 0 0 (x_Ri q) 0 0 10 [some (.ref v0), some (.int v1), some (.int v2), some (.int v3), some (.int v4)] [] M) (H : f_X9_throughWith_47 κ10 v0 v1 v2 v4 s0 M = some q) : AW l m_X9_throughWith 2 0 0 (x_Ri q) 0 0 47 [some (.ref v0), some (.int v1), some (.int v2), none, some (.int v4)] [(.int s0)] M := by
  unfold f_X9_throughWith_47 at H
  refine x_istore_n 47 3 [some (.ref v0), some (.int v1), some (.int v2), some (.int s0), some (.int v4)] dX9_throughWith_47 rfl rfl (Nat.le_of_ble_eq_true rfl) rfl ?_
  refine x_goto 48 10 dX9_throughWith_48 (by decide) ?_
  exact hκ10 _ _ _ _ _ _ H

def bd_X9_throughWith_10 (κ10 : Nat → Int32 → Int32 → Int32 → Int32 → XM → Option (Int32 × XM)) (v0 : Nat) (v1 : Int32) (v2 : Int32) (v3 : Int32) (v4 : Int32) (M : XM) : Option (Int32 × XM) :=
  if x_tag M v0 = 9 + 10 then (if (x_i M v0 1) ≤ v3 then (some (v4, M)) else (if (v4 + (1 : Int32)) = v2 then (if x_at M (x_r M v0 14) 1 v1 = true then (x_bd (f_X9_left v0 v1 v3 ((x_i M (x_r M v0 14) v1.toNatClampNeg) + (1 : Int32)) M) (fun r8 M7 => f_X9_throughWith_47 κ10 v0 v1 v2 (v4 + (1 : Int32)) r8 M7)) else none) else (f_X9_throughWith_47 κ10 v0 v1 v2 (v4 + (1 : Int32)) (v3 + (1 : Int32)) M))) else none
set_option maxRecDepth 20000 in
set_option maxHeartbeats 4000000 in
theorem tb_X9_throughWith_10 (l : Launch) {κ10 : Nat → Int32 → Int32 → Int32 → Int32 → XM → Option (Int32 × XM)} {v0 : Nat} {v1 : Int32} {v2 : Int32} {v3 : Int32} {v4 : Int32} {M : XM} {q : Int32 × XM} (hκ10 : ∀ (v0 : Nat) (v1 : Int32) (v2 : Int32) (v3 : Int32) (v4 : Int32) (M : XM), κ10 v0 v1 v2 v3 v4 M = some q → AW l m_X9_throughWith 2 0 0 (x_Ri q) 0 0 10 [some (.ref v0), some (.int v1), some (.int v2), some (.int v3), some (.int v4)] [] M) (H : bd_X9_throughWith_10 κ10 v0 v1 v2 v3 v4 M = some q) : AW l m_X9_throughWith 2 0 0 (x_Ri q) 0 0 10 [some (.ref v0), some (.int v1), some (.int v2), some (.int v3), some (.int v4)] [] M := by
  unfold bd_X9_throughWith_10 at H
  refine x_iload_n 10 3 dX9_throughWith_10 rfl rfl ?_
  refine x_aload_n 11 0 dX9_throughWith_11 rfl rfl ?_
  obtain ⟨h3, H⟩ := x_ckp H
  refine x_getf 12 7 9 1 (.int (x_i M v0 1)) dX9_throughWith_12 lk_1029 (by decide) (by decide) rfl (fun _ => rfl) h3 ?_
  refine x_icmp_ge 15 51 dX9_throughWith_15 (by decide) (fun c4 => ?_) (fun c4 => ?_)
  · replace H := x_ifp c4 H
    refine x_iload 51 4 dX9_throughWith_51 rfl ?_
    cases H
    exact x_iret 53 dX9_throughWith_53 .int rfl rfl (Nat.le_of_ble_eq_true rfl) (Nat.le_of_ble_eq_true rfl) ⟨rfl, rfl⟩
  · replace H := x_ifn c4 H
    refine x_iinc 18 4 (v4 + (1 : Int32)) [some (.ref v0), some (.int v1), some (.int v2), some (.int v3), some (.int (v4 + (1 : Int32)))] dX9_throughWith_18 rfl (congrArg (fun z : Int32 => v4 + z) (show Int32.ofInt (1) = (1 : Int32) by decide)) rfl (Nat.le_of_ble_eq_true rfl) rfl ?_
    refine x_iload 21 4 dX9_throughWith_21 rfl ?_
    refine x_iload_n 23 2 dX9_throughWith_23 rfl rfl ?_
    refine x_icmp_ne 24 44 dX9_throughWith_24 (by decide) (fun c5 => ?_) (fun c5 => ?_)
    · replace H := x_ifn c5 H
      refine x_iload_n 44 3 dX9_throughWith_44 rfl rfl ?_
      refine x_iconst 45 (1 : Int32) dX9_throughWith_45 (by decide) ?_
      refine x_iadd 46 dX9_throughWith_46 ?_
      exact x_wk (le_s (le_s (le_s (le_n (le_s le_0))))) (t_X9_throughWith_47 l hκ10 H)
    · replace H := x_ifp c5 H
      refine x_aload_n 27 0 dX9_throughWith_27 rfl rfl ?_
      refine x_iload_n 28 1 dX9_throughWith_28 rfl rfl ?_
      refine x_iload_n 29 3 dX9_throughWith_29 rfl rfl ?_
      refine x_aload_n 30 0 dX9_throughWith_30 rfl rfl ?_
      refine x_getf 31 44 9 14 (.ref (x_r M v0 14)) dX9_throughWith_31 lk_1042 (by decide) (by decide) rfl (fun _ => rfl) h3 ?_
      refine x_iload_n 34 1 dX9_throughWith_34 rfl rfl ?_
      obtain ⟨h6, H⟩ := x_ckp H
      refine x_iald 35 dX9_throughWith_35 h6 ?_
      refine x_iconst 36 (1 : Int32) dX9_throughWith_36 (by decide) ?_
      refine x_iadd 37 dX9_throughWith_37 ?_
      obtain ⟨r8, M7, e9, H⟩ := x_bd_of H
      refine x_callV 38 183 9 [(.int v1), (.int v3), (.int ((x_i M (x_r M v0 14) v1.toNatClampNeg) + (1 : Int32)))] [] dX9_throughWith_38 (ct_X9_left l e9) lk_1271 lk_1273 lk_53 (by decide) h3 lk_94 lk_1274 ⟨cn_X9_left, (by decide), by decide⟩ rfl (Nat.le_of_ble_eq_true rfl) (Nat.le_of_ble_eq_true rfl) (Nat.le_of_ble_eq_true rfl) (x_ri ?_)
      refine x_goto 41 47 dX9_throughWith_41 (by decide) ?_
      exact x_wk (le_s (le_s (le_s (le_n (le_s le_0))))) (t_X9_throughWith_47 l hκ10 H)

def lp_X9_throughWith_10 (n : Nat) : Nat → Int32 → Int32 → Int32 → Int32 → XM → Option (Int32 × XM) := x_rec (fun _ _ _ _ _ _ => none) (bd_X9_throughWith_10) n
theorem t_X9_throughWith_10 (l : Launch) {q : Int32 × XM} : ∀ (n : Nat) (v0 : Nat) (v1 : Int32) (v2 : Int32) (v3 : Int32) (v4 : Int32) (M : XM), lp_X9_throughWith_10 n v0 v1 v2 v3 v4 M = some q → AW l m_X9_throughWith 2 0 0 (x_Ri q) 0 0 10 [some (.ref v0), some (.int v1), some (.int v2), some (.int v3), some (.int v4)] [] M := by
  intro n
  induction n with
  | zero => intro v0 v1 v2 v3 v4 M H; cases H
  | succ n ih => intro v0 v1 v2 v3 v4 M H; exact tb_X9_throughWith_10 l ih H
def f_X9_throughWith (v0 : Nat) (v1 : Int32) (v2 : Int32) (M : XM) : Option (Int32 × XM) :=
  if x_tag M v0 = 9 + 10 then (if x_at M (x_r M v0 12) 1 v1 = true then (lp_X9_throughWith_10 x_fuel v0 v1 v2 (x_i M (x_r M v0 12) v1.toNatClampNeg) (0 : Int32) M) else none) else none
set_option maxRecDepth 20000 in
set_option maxHeartbeats 4000000 in
theorem t_X9_throughWith (l : Launch) {v0 : Nat} {v1 : Int32} {v2 : Int32} {M : XM} {q : Int32 × XM} (H : f_X9_throughWith v0 v1 v2 M = some q) : AW l m_X9_throughWith 2 0 0 (x_Ri q) 0 0 0 [some (.ref v0), some (.int v1), some (.int v2), none, none] [] M := by
  unfold f_X9_throughWith at H
  refine x_aload_n 0 0 dX9_throughWith_0 rfl rfl ?_
  obtain ⟨h1, H⟩ := x_ckp H
  refine x_getf 1 38 9 12 (.ref (x_r M v0 12)) dX9_throughWith_1 lk_1040 (by decide) (by decide) rfl (fun _ => rfl) h1 ?_
  refine x_iload_n 4 1 dX9_throughWith_4 rfl rfl ?_
  obtain ⟨h2, H⟩ := x_ckp H
  refine x_iald 5 dX9_throughWith_5 h2 ?_
  refine x_istore_n 6 3 [some (.ref v0), some (.int v1), some (.int v2), some (.int (x_i M (x_r M v0 12) v1.toNatClampNeg)), none] dX9_throughWith_6 rfl rfl (Nat.le_of_ble_eq_true rfl) rfl ?_
  refine x_iconst 7 (0 : Int32) dX9_throughWith_7 (by decide) ?_
  refine x_istore 8 4 [some (.ref v0), some (.int v1), some (.int v2), some (.int (x_i M (x_r M v0 12) v1.toNatClampNeg)), some (.int (0 : Int32))] dX9_throughWith_8 rfl (Nat.le_of_ble_eq_true rfl) rfl ?_
  exact t_X9_throughWith_10 l _ _ _ _ _ _ _ H

theorem ct_X9_throughWith (l : Launch) {v0 : Nat} {v1 : Int32} {v2 : Int32} {M : XM} {q : Int32 × XM} (H : f_X9_throughWith v0 v1 v2 M = some q) : Ct l m_X9_throughWith 2 0 0 [(.ref v0), (.int v1), (.int v2)] M (x_Ri q) := x_met l m_X9_throughWith 2 0 0 [(.ref v0), (.int v1), (.int v2)] M (x_Ri q) _ rfl rfl (Nat.le_of_ble_eq_true rfl) (t_X9_throughWith l H)
theorem lk_1373 : Cond.code yX9_throughWith cX9_throughWith 5 (some .int) ∈ x_TB := x_tb (k := 1373) (by decide +kernel) rfl
theorem lk_1370 : Cond.methodLink RX9 242 yX9_throughWith ∈ x_TB := x_tb (k := 1370) (by decide +kernel) rfl
theorem lk_68 : Cond.selects RX9 yX9_throughWith yX9_throughWith ∈ x_TB := x_tb (k := 68) (by decide +kernel) rfl
theorem lk_1372 : Cond.instanceMethod yX9_throughWith ∈ x_TB := x_tb (k := 1372) (by decide +kernel) rfl
abbrev m_X9_when : XU := (yX9_when, cX9_when, 8, (some .int))
theorem cn_X9_when : m_X9_when.1.cls ≠ "java/lang/invoke/MethodHandle" ∧ m_X9_when.1.cls ≠ "java/lang/invoke/VarHandle" ∧ (parseMethodDescriptor m_X9_when.1.desc).map (fun q => q.parameters.length) = some 3 := by decide +kernel
def f_X9_when_23 (v0 : Nat) (M : XM) : Option (Int32 × XM) :=
  if x_tag M v0 = 9 + 10 then (x_bd (f_X9_no v0 (-5 : Int32) M) (fun r13 M12 => some (r13, M12))) else none
set_option maxRecDepth 20000 in
set_option maxHeartbeats 4000000 in
theorem t_X9_when_23 (l : Launch) {v0 : Nat} {M : XM} {q : Int32 × XM} (H : f_X9_when_23 v0 M = some q) : AW l m_X9_when 3 0 0 (x_Ri q) 0 0 23 [some (.ref v0), none, none, none, none, none, none, none] [] M := by
  unfold f_X9_when_23 at H
  refine x_aload_n 23 0 dX9_when_23 rfl rfl ?_
  refine x_bipush 24 (-5 : Int32) dX9_when_24 (by decide) ?_
  obtain ⟨h11, H⟩ := x_ckp H
  obtain ⟨r13, M12, e14, H⟩ := x_bd_of H
  refine x_callV 26 100 9 [(.int (-5 : Int32))] [] dX9_when_26 (ct_X9_no l e14) lk_1163 lk_1165 lk_37 (by decide) h11 lk_94 lk_1166 ⟨cn_X9_no, (by decide), by decide⟩ rfl (Nat.le_of_ble_eq_true rfl) (Nat.le_of_ble_eq_true rfl) (Nat.le_of_ble_eq_true rfl) (x_ri ?_)
  cases H
  exact x_iret 29 dX9_when_29 .int rfl rfl (Nat.le_of_ble_eq_true rfl) (Nat.le_of_ble_eq_true rfl) ⟨rfl, rfl⟩

def f_X9_when_54 (v0 : Nat) (M : XM) : Option (Int32 × XM) :=
  if x_tag M v0 = 9 + 10 then (x_bd (f_X9_no v0 (-6 : Int32) M) (fun r19 M18 => some (r19, M18))) else none
set_option maxRecDepth 20000 in
set_option maxHeartbeats 4000000 in
theorem t_X9_when_54 (l : Launch) {v0 : Nat} {M : XM} {q : Int32 × XM} (H : f_X9_when_54 v0 M = some q) : AW l m_X9_when 3 0 0 (x_Ri q) 0 0 54 [some (.ref v0), none, none, none, none, none, none, none] [] M := by
  unfold f_X9_when_54 at H
  refine x_aload_n 54 0 dX9_when_54 rfl rfl ?_
  refine x_bipush 55 (-6 : Int32) dX9_when_55 (by decide) ?_
  obtain ⟨h17, H⟩ := x_ckp H
  obtain ⟨r19, M18, e20, H⟩ := x_bd_of H
  refine x_callV 57 100 9 [(.int (-6 : Int32))] [] dX9_when_57 (ct_X9_no l e20) lk_1163 lk_1165 lk_37 (by decide) h17 lk_94 lk_1166 ⟨cn_X9_no, (by decide), by decide⟩ rfl (Nat.le_of_ble_eq_true rfl) (Nat.le_of_ble_eq_true rfl) (Nat.le_of_ble_eq_true rfl) (x_ri ?_)
  cases H
  exact x_iret 60 dX9_when_60 .int rfl rfl (Nat.le_of_ble_eq_true rfl) (Nat.le_of_ble_eq_true rfl) ⟨rfl, rfl⟩

def f_X9_when_116 (κ67 : Nat → Int32 → Int32 → Int32 → Int32 → Int32 → XM → Option (Int32 × XM)) (v0 : Nat) (v1 : Int32) (v2 : Int32) (v3 : Int32) (v4 : Int32) (v5 : Int32) (M : XM) : Option (Int32 × XM) :=
  κ67 v0 v1 v2 v3 v4 (v5 + (1 : Int32)) M
set_option maxRecDepth 20000 in
set_option maxHeartbeats 4000000 in
theorem t_X9_when_116 (l : Launch) {κ67 : Nat → Int32 → Int32 → Int32 → Int32 → Int32 → XM → Option (Int32 × XM)} {v0 : Nat} {v1 : Int32} {v2 : Int32} {v3 : Int32} {v4 : Int32} {v5 : Int32} {M : XM} {q : Int32 × XM} (hκ67 : ∀ (v0 : Nat) (v1 : Int32) (v2 : Int32) (v3 : Int32) (v4 : Int32) (v5 : Int32) (M : XM), κ67 v0 v1 v2 v3 v4 v5 M = some q → AW l m_X9_when 3 0 0 (x_Ri q) 0 0 67 [some (.ref v0), some (.int v1), some (.int v2), some (.int v3), some (.int v4), some (.int v5), none, none] [] M) (H : f_X9_when_116 κ67 v0 v1 v2 v3 v4 v5 M = some q) : AW l m_X9_when 3 0 0 (x_Ri q) 0 0 116 [some (.ref v0), some (.int v1), some (.int v2), some (.int v3), some (.int v4), some (.int v5), none, none] [] M := by
  unfold f_X9_when_116 at H
  refine x_iinc 116 5 (v5 + (1 : Int32)) [some (.ref v0), some (.int v1), some (.int v2), some (.int v3), some (.int v4), some (.int (v5 + (1 : Int32))), none, none] dX9_when_116 rfl (congrArg (fun z : Int32 => v5 + z) (show Int32.ofInt (1) = (1 : Int32) by decide)) rfl (Nat.le_of_ble_eq_true rfl) rfl ?_
  refine x_goto 119 67 dX9_when_119 (by decide) ?_
  exact hκ67 _ _ _ _ _ _ _ H

def f_X9_when_112 (κ67 : Nat → Int32 → Int32 → Int32 → Int32 → Int32 → XM → Option (Int32 × XM)) (v0 : Nat) (v1 : Int32) (v2 : Int32) (v3 : Int32) (v5 : Int32) (M : XM) : Option (Int32 × XM) :=
  f_X9_when_116 κ67 v0 v1 v2 v3 v5 v5 M
set_option maxRecDepth 20000 in
set_option maxHeartbeats 4000000 in
theorem t_X9_when_112 (l : Launch) {κ67 : Nat → Int32 → Int32 → Int32 → Int32 → Int32 → XM → Option (Int32 × XM)} {v0 : Nat} {v1 : Int32} {v2 : Int32} {v3 : Int32} {v5 : Int32} {M : XM} {q : Int32 × XM} (hκ67 : ∀ (v0 : Nat) (v1 : Int32) (v2 : Int32) (v3 : Int32) (v4 : Int32) (v5 : Int32) (M : XM), κ67 v0 v1 v2 v3 v4 v5 M = some q → AW l m_X9_when 3 0 0 (x_Ri q) 0 0 67 [some (.ref v0), some (.int v1), some (.int v2), some (.int v3), some (.int v4), some (.int v5), none, none] [] M) (H : f_X9_when_112 κ67 v0 v1 v2 v3 v5 M = some q) : AW l m_X9_when 3 0 0 (x_Ri q) 0 0 112 [some (.ref v0), some (.int v1), some (.int v2), some (.int v3), none, some (.int v5), none, none] [] M := by
  unfold f_X9_when_112 at H
  refine x_iload 112 5 dX9_when_112 rfl ?_
  refine x_istore 114 4 [some (.ref v0), some (.int v1), some (.int v2), some (.int v3), some (.int v5), some (.int v5), none, none] dX9_when_114 rfl (Nat.le_of_ble_eq_true rfl) rfl ?_
  exact t_X9_when_116 l hκ67 H

def bd_X9_when_67 (κ67 : Nat → Int32 → Int32 → Int32 → Int32 → Int32 → XM → Option (Int32 × XM)) (v0 : Nat) (v1 : Int32) (v2 : Int32) (v3 : Int32) (v4 : Int32) (v5 : Int32) (M : XM) : Option (Int32 × XM) :=
  if v2 < v5 then (some (v4, M)) else (if x_tag M v0 = 9 + 10 then (x_bd (f_X9_throughWith v0 v1 v5 M) (fun r28 M27 => if x_tag M27 v0 = 9 + 10 then (x_bd (f_X9_throughWith v0 v1 v4 M27) (fun r32 M31 => if v3 = 0 then (if r32 < r28 then (f_X9_when_116 κ67 v0 v1 v2 v3 v4 v5 M31) else (f_X9_when_112 κ67 v0 v1 v2 v3 v5 M31)) else (if r28 ≤ r32 then (f_X9_when_116 κ67 v0 v1 v2 v3 v4 v5 M31) else (f_X9_when_112 κ67 v0 v1 v2 v3 v5 M31)))) else none)) else none)
set_option maxRecDepth 20000 in
set_option maxHeartbeats 4000000 in
theorem tb_X9_when_67 (l : Launch) {κ67 : Nat → Int32 → Int32 → Int32 → Int32 → Int32 → XM → Option (Int32 × XM)} {v0 : Nat} {v1 : Int32} {v2 : Int32} {v3 : Int32} {v4 : Int32} {v5 : Int32} {M : XM} {q : Int32 × XM} (hκ67 : ∀ (v0 : Nat) (v1 : Int32) (v2 : Int32) (v3 : Int32) (v4 : Int32) (v5 : Int32) (M : XM), κ67 v0 v1 v2 v3 v4 v5 M = some q → AW l m_X9_when 3 0 0 (x_Ri q) 0 0 67 [some (.ref v0), some (.int v1), some (.int v2), some (.int v3), some (.int v4), some (.int v5), none, none] [] M) (H : bd_X9_when_67 κ67 v0 v1 v2 v3 v4 v5 M = some q) : AW l m_X9_when 3 0 0 (x_Ri q) 0 0 67 [some (.ref v0), some (.int v1), some (.int v2), some (.int v3), some (.int v4), some (.int v5), none, none] [] M := by
  unfold bd_X9_when_67 at H
  refine x_iload 67 5 dX9_when_67 rfl ?_
  refine x_iload_n 69 2 dX9_when_69 rfl rfl ?_
  refine x_icmp_gt 70 122 dX9_when_70 (by decide) (fun c25 => ?_) (fun c25 => ?_)
  · replace H := x_ifp c25 H
    refine x_iload 122 4 dX9_when_122 rfl ?_
    cases H
    exact x_iret 124 dX9_when_124 .int rfl rfl (Nat.le_of_ble_eq_true rfl) (Nat.le_of_ble_eq_true rfl) ⟨rfl, rfl⟩
  · replace H := x_ifn c25 H
    refine x_aload_n 73 0 dX9_when_73 rfl rfl ?_
    refine x_iload_n 74 1 dX9_when_74 rfl rfl ?_
    refine x_iload 75 5 dX9_when_75 rfl ?_
    obtain ⟨h26, H⟩ := x_ckp H
    obtain ⟨r28, M27, e29, H⟩ := x_bd_of H
    refine x_callV 77 242 9 [(.int v1), (.int v5)] [] dX9_when_77 (ct_X9_throughWith l e29) lk_1370 lk_1372 lk_68 (by decide) h26 lk_94 lk_1373 ⟨cn_X9_throughWith, (by decide), by decide⟩ rfl (Nat.le_of_ble_eq_true rfl) (Nat.le_of_ble_eq_true rfl) (Nat.le_of_ble_eq_true rfl) (x_ri ?_)
    refine x_istore 80 6 [some (.ref v0), some (.int v1), some (.int v2), some (.int v3), some (.int v4), some (.int v5), some (.int r28), none] dX9_when_80 rfl (Nat.le_of_ble_eq_true rfl) rfl ?_
    refine x_aload_n 82 0 dX9_when_82 rfl rfl ?_
    refine x_iload_n 83 1 dX9_when_83 rfl rfl ?_
    refine x_iload 84 4 dX9_when_84 rfl ?_
    obtain ⟨h30, H⟩ := x_ckp H
    obtain ⟨r32, M31, e33, H⟩ := x_bd_of H
    refine x_callV 86 242 9 [(.int v1), (.int v4)] [] dX9_when_86 (ct_X9_throughWith l e33) lk_1370 lk_1372 lk_68 (by decide) h30 lk_94 lk_1373 ⟨cn_X9_throughWith, (by decide), by decide⟩ rfl (Nat.le_of_ble_eq_true rfl) (Nat.le_of_ble_eq_true rfl) (Nat.le_of_ble_eq_true rfl) (x_ri ?_)
    refine x_istore 89 7 [some (.ref v0), some (.int v1), some (.int v2), some (.int v3), some (.int v4), some (.int v5), some (.int r28), some (.int r32)] dX9_when_89 rfl (Nat.le_of_ble_eq_true rfl) rfl ?_
    refine x_iload_n 91 3 dX9_when_91 rfl rfl ?_
    refine x_if_ne 92 105 dX9_when_92 (by decide) (fun c34 => ?_) (fun c34 => ?_)
    · replace H := x_ifn c34 H
      refine x_iload 105 6 dX9_when_105 rfl ?_
      refine x_iload 107 7 dX9_when_107 rfl ?_
      refine x_icmp_le 109 116 dX9_when_109 (by decide) (fun c36 => ?_) (fun c36 => ?_)
      · replace H := x_ifp c36 H
        exact x_wk (le_s (le_s (le_s (le_s (le_s (le_s (le_n (le_n le_0)))))))) (t_X9_when_116 l hκ67 H)
      · replace H := x_ifn c36 H
        exact x_wk (le_s (le_s (le_s (le_s (le_n (le_s (le_n (le_n le_0)))))))) (t_X9_when_112 l hκ67 H)
    · replace H := x_ifp c34 H
      refine x_iload 95 6 dX9_when_95 rfl ?_
      refine x_iload 97 7 dX9_when_97 rfl ?_
      refine x_icmp_gt 99 116 dX9_when_99 (by decide) (fun c35 => ?_) (fun c35 => ?_)
      · replace H := x_ifp c35 H
        exact x_wk (le_s (le_s (le_s (le_s (le_s (le_s (le_n (le_n le_0)))))))) (t_X9_when_116 l hκ67 H)
      · replace H := x_ifn c35 H
        refine x_goto 102 112 dX9_when_102 (by decide) ?_
        exact x_wk (le_s (le_s (le_s (le_s (le_n (le_s (le_n (le_n le_0)))))))) (t_X9_when_112 l hκ67 H)

def lp_X9_when_67 (n : Nat) : Nat → Int32 → Int32 → Int32 → Int32 → Int32 → XM → Option (Int32 × XM) := x_rec (fun _ _ _ _ _ _ _ => none) (bd_X9_when_67) n
theorem t_X9_when_67 (l : Launch) {q : Int32 × XM} : ∀ (n : Nat) (v0 : Nat) (v1 : Int32) (v2 : Int32) (v3 : Int32) (v4 : Int32) (v5 : Int32) (M : XM), lp_X9_when_67 n v0 v1 v2 v3 v4 v5 M = some q → AW l m_X9_when 3 0 0 (x_Ri q) 0 0 67 [some (.ref v0), some (.int v1), some (.int v2), some (.int v3), some (.int v4), some (.int v5), none, none] [] M := by
  intro n
  induction n with
  | zero => intro v0 v1 v2 v3 v4 v5 M H; cases H
  | succ n ih => intro v0 v1 v2 v3 v4 v5 M H; exact tb_X9_when_67 l ih H
def f_X9_when (v0 : Nat) (v1 : Int32) (v2 : Int32) (v3 : Int32) (M : XM) : Option (Int32 × XM) :=
  if x_tag M v0 = 9 + 10 then (x_bd (f_X9_isCounter v0 v1 M) (fun r3 M2 => if r3 = 0 then (if x_tag M2 v0 = 9 + 10 then (x_bd (f_X9_no v0 (-1 : Int32) M2) (fun r8 M7 => some (r8, M7))) else none) else (if v3 < 0 then (f_X9_when_23 v0 M2) else (if v3 ≤ (1 : Int32) then (if v2 < (1 : Int32) then (f_X9_when_54 v0 M2) else (if (100 : Int32) < v2 then (f_X9_when_54 v0 M2) else (if x_tag M2 v0 = 9 + 10 then (if x_at M2 (x_r M2 v0 12) 1 v1 = true then (if (x_i M2 (x_r M2 v0 12) v1.toNatClampNeg) = (x_i M2 v0 1) then (f_X9_when_54 v0 M2) else (lp_X9_when_67 x_fuel v0 v1 v2 v3 (1 : Int32) (2 : Int32) M2)) else none) else none))) else (f_X9_when_23 v0 M2))))) else none
set_option maxRecDepth 20000 in
set_option maxHeartbeats 4000000 in
theorem t_X9_when (l : Launch) {v0 : Nat} {v1 : Int32} {v2 : Int32} {v3 : Int32} {M : XM} {q : Int32 × XM} (H : f_X9_when v0 v1 v2 v3 M = some q) : AW l m_X9_when 3 0 0 (x_Ri q) 0 0 0 [some (.ref v0), some (.int v1), some (.int v2), some (.int v3), none, none, none, none] [] M := by
  unfold f_X9_when at H
  refine x_aload_n 0 0 dX9_when_0 rfl rfl ?_
  refine x_iload_n 1 1 dX9_when_1 rfl rfl ?_
  obtain ⟨h1, H⟩ := x_ckp H
  obtain ⟨r3, M2, e4, H⟩ := x_bd_of H
  refine x_callV 2 104 9 [(.int v1)] [] dX9_when_2 (ct_X9_isCounter l e4) lk_1183 lk_1185 lk_38 (by decide) h1 lk_94 lk_1186 ⟨cn_X9_isCounter, (by decide), by decide⟩ rfl (Nat.le_of_ble_eq_true rfl) (Nat.le_of_ble_eq_true rfl) (Nat.le_of_ble_eq_true rfl) (x_ri ?_)
  refine x_if_ne 5 14 dX9_when_5 (by decide) (fun c5 => ?_) (fun c5 => ?_)
  · replace H := x_ifn c5 H
    refine x_iload_n 14 3 dX9_when_14 rfl rfl ?_
    refine x_if_lt 15 23 dX9_when_15 (by decide) (fun c10 => ?_) (fun c10 => ?_)
    · replace H := x_ifp c10 H
      exact x_wk (le_s (le_n (le_n (le_n (le_s (le_s (le_s (le_s le_0)))))))) (t_X9_when_23 l H)
    · replace H := x_ifn c10 H
      refine x_iload_n 18 3 dX9_when_18 rfl rfl ?_
      refine x_iconst 19 (1 : Int32) dX9_when_19 (by decide) ?_
      refine x_icmp_le 20 30 dX9_when_20 (by decide) (fun c15 => ?_) (fun c15 => ?_)
      · replace H := x_ifp c15 H
        refine x_iload_n 30 2 dX9_when_30 rfl rfl ?_
        refine x_iconst 31 (1 : Int32) dX9_when_31 (by decide) ?_
        refine x_icmp_lt 32 54 dX9_when_32 (by decide) (fun c16 => ?_) (fun c16 => ?_)
        · replace H := x_ifp c16 H
          exact x_wk (le_s (le_n (le_n (le_n (le_s (le_s (le_s (le_s le_0)))))))) (t_X9_when_54 l H)
        · replace H := x_ifn c16 H
          refine x_iload_n 35 2 dX9_when_35 rfl rfl ?_
          refine x_bipush 36 (100 : Int32) dX9_when_36 (by decide) ?_
          refine x_icmp_gt 38 54 dX9_when_38 (by decide) (fun c21 => ?_) (fun c21 => ?_)
          · replace H := x_ifp c21 H
            exact x_wk (le_s (le_n (le_n (le_n (le_s (le_s (le_s (le_s le_0)))))))) (t_X9_when_54 l H)
          · replace H := x_ifn c21 H
            refine x_aload_n 41 0 dX9_when_41 rfl rfl ?_
            obtain ⟨h22, H⟩ := x_ckp H
            refine x_getf 42 38 9 12 (.ref (x_r M2 v0 12)) dX9_when_42 lk_1040 (by decide) (by decide) rfl (fun _ => rfl) h22 ?_
            refine x_iload_n 45 1 dX9_when_45 rfl rfl ?_
            obtain ⟨h23, H⟩ := x_ckp H
            refine x_iald 46 dX9_when_46 h23 ?_
            refine x_aload_n 47 0 dX9_when_47 rfl rfl ?_
            refine x_getf 48 7 9 1 (.int (x_i M2 v0 1)) dX9_when_48 lk_1029 (by decide) (by decide) rfl (fun _ => rfl) h22 ?_
            refine x_icmp_ne 51 61 dX9_when_51 (by decide) (fun c24 => ?_) (fun c24 => ?_)
            · replace H := x_ifn c24 H
              refine x_iconst 61 (1 : Int32) dX9_when_61 (by decide) ?_
              refine x_istore 62 4 [some (.ref v0), some (.int v1), some (.int v2), some (.int v3), some (.int (1 : Int32)), none, none, none] dX9_when_62 rfl (Nat.le_of_ble_eq_true rfl) rfl ?_
              refine x_iconst 64 (2 : Int32) dX9_when_64 (by decide) ?_
              refine x_istore 65 5 [some (.ref v0), some (.int v1), some (.int v2), some (.int v3), some (.int (1 : Int32)), some (.int (2 : Int32)), none, none] dX9_when_65 rfl (Nat.le_of_ble_eq_true rfl) rfl ?_
              exact t_X9_when_67 l _ _ _ _ _ _ _ _ H
            · replace H := x_ifp c24 H
              exact x_wk (le_s (le_n (le_n (le_n (le_s (le_s (le_s (le_s le_0)))))))) (t_X9_when_54 l H)
      · replace H := x_ifn c15 H
        exact x_wk (le_s (le_n (le_n (le_n (le_s (le_s (le_s (le_s le_0)))))))) (t_X9_when_23 l H)
  · replace H := x_ifp c5 H
    refine x_aload_n 8 0 dX9_when_8 rfl rfl ?_
    refine x_iconst 9 (-1 : Int32) dX9_when_9 (by decide) ?_
    obtain ⟨h6, H⟩ := x_ckp H
    obtain ⟨r8, M7, e9, H⟩ := x_bd_of H
    refine x_callV 10 100 9 [(.int (-1 : Int32))] [] dX9_when_10 (ct_X9_no l e9) lk_1163 lk_1165 lk_37 (by decide) h6 lk_94 lk_1166 ⟨cn_X9_no, (by decide), by decide⟩ rfl (Nat.le_of_ble_eq_true rfl) (Nat.le_of_ble_eq_true rfl) (Nat.le_of_ble_eq_true rfl) (x_ri ?_)
    cases H
    exact x_iret 13 dX9_when_13 .int rfl rfl (Nat.le_of_ble_eq_true rfl) (Nat.le_of_ble_eq_true rfl) ⟨rfl, rfl⟩

theorem ct_X9_when (l : Launch) {v0 : Nat} {v1 : Int32} {v2 : Int32} {v3 : Int32} {M : XM} {q : Int32 × XM} (H : f_X9_when v0 v1 v2 v3 M = some q) : Ct l m_X9_when 3 0 0 [(.ref v0), (.int v1), (.int v2), (.int v3)] M (x_Ri q) := x_met l m_X9_when 3 0 0 [(.ref v0), (.int v1), (.int v2), (.int v3)] M (x_Ri q) _ rfl rfl (Nat.le_of_ble_eq_true rfl) (t_X9_when l H)
abbrev m_X9_longest : XU := (yX9_longest, cX9_longest, 9, (some .int))
theorem cn_X9_longest : m_X9_longest.1.cls ≠ "java/lang/invoke/MethodHandle" ∧ m_X9_longest.1.cls ≠ "java/lang/invoke/VarHandle" ∧ (parseMethodDescriptor m_X9_longest.1.desc).map (fun q => q.parameters.length) = some 2 := by decide +kernel
def f_X9_longest_23 (v0 : Nat) (M : XM) : Option (Int32 × XM) :=
  if x_tag M v0 = 9 + 10 then (x_bd (f_X9_noTen v0 (-6 : Int32) M) (fun r13 M12 => some (r13, M12))) else none
set_option maxRecDepth 20000 in
set_option maxHeartbeats 4000000 in
theorem t_X9_longest_23 (l : Launch) {v0 : Nat} {M : XM} {q : Int32 × XM} (H : f_X9_longest_23 v0 M = some q) : AW l m_X9_longest 3 0 0 (x_Ri q) 0 0 23 [some (.ref v0), none, none, none, none, none, none, none, none] [] M := by
  unfold f_X9_longest_23 at H
  refine x_aload_n 23 0 dX9_longest_23 rfl rfl ?_
  refine x_bipush 24 (-6 : Int32) dX9_longest_24 (by decide) ?_
  obtain ⟨h11, H⟩ := x_ckp H
  obtain ⟨r13, M12, e14, H⟩ := x_bd_of H
  refine x_callV 26 212 9 [(.int (-6 : Int32))] [] dX9_longest_26 (ct_X9_noTen l e14) lk_1312 lk_1314 lk_59 (by decide) h11 lk_94 lk_1315 ⟨cn_X9_noTen, (by decide), by decide⟩ rfl (Nat.le_of_ble_eq_true rfl) (Nat.le_of_ble_eq_true rfl) (Nat.le_of_ble_eq_true rfl) (x_ri ?_)
  cases H
  exact x_iret 29 dX9_longest_29 .int rfl rfl (Nat.le_of_ble_eq_true rfl) (Nat.le_of_ble_eq_true rfl) ⟨rfl, rfl⟩

def bd_X9_longest_223 (κ64 : Nat → Int32 → Int32 → Int32 → Int32 → XM → Option (Int32 × XM)) (κ223 : Nat → Int32 → Int32 → Int32 → Int32 → Int32 → XM → Option (Int32 × XM)) (v0 : Nat) (v1 : Int32) (v2 : Int32) (v3 : Int32) (v4 : Int32) (v5 : Int32) (M : XM) : Option (Int32 × XM) :=
  if x_tag M v0 = 9 + 10 then (if (((10 : Int32) * (x_i M v0 1)) + (10 : Int32)) ≤ v5 then (κ64 v0 v1 v2 v3 (v4 + (1 : Int32)) M) else (if x_at M (x_r M v0 36) 1 v5 = true then (if x_at M (x_r M v0 35) 1 v5 = true then (x_lt (x_wi M (x_r M v0 35) v5.toNatClampNeg (x_i M (x_r M v0 36) v5.toNatClampNeg)) (fun M35 => κ223 v0 v1 v2 v3 v4 (v5 + (1 : Int32)) M35)) else none) else none)) else none
set_option maxRecDepth 20000 in
set_option maxHeartbeats 4000000 in
theorem tb_X9_longest_223 (l : Launch) {κ64 : Nat → Int32 → Int32 → Int32 → Int32 → XM → Option (Int32 × XM)} {κ223 : Nat → Int32 → Int32 → Int32 → Int32 → Int32 → XM → Option (Int32 × XM)} {v0 : Nat} {v1 : Int32} {v2 : Int32} {v3 : Int32} {v4 : Int32} {v5 : Int32} {M : XM} {q : Int32 × XM} (hκ64 : ∀ (v0 : Nat) (v1 : Int32) (v2 : Int32) (v3 : Int32) (v4 : Int32) (M : XM), κ64 v0 v1 v2 v3 v4 M = some q → AW l m_X9_longest 3 0 0 (x_Ri q) 0 0 64 [some (.ref v0), some (.int v1), some (.int v2), some (.int v3), some (.int v4), none, none, none, none] [] M) (hκ223 : ∀ (v0 : Nat) (v1 : Int32) (v2 : Int32) (v3 : Int32) (v4 : Int32) (v5 : Int32) (M : XM), κ223 v0 v1 v2 v3 v4 v5 M = some q → AW l m_X9_longest 3 0 0 (x_Ri q) 0 0 223 [some (.ref v0), some (.int v1), some (.int v2), some (.int v3), some (.int v4), some (.int v5), none, none, none] [] M) (H : bd_X9_longest_223 κ64 κ223 v0 v1 v2 v3 v4 v5 M = some q) : AW l m_X9_longest 3 0 0 (x_Ri q) 0 0 223 [some (.ref v0), some (.int v1), some (.int v2), some (.int v3), some (.int v4), some (.int v5), none, none, none] [] M := by
  unfold bd_X9_longest_223 at H
  refine x_iload 223 5 dX9_longest_223 rfl ?_
  refine x_bipush 225 (10 : Int32) dX9_longest_225 (by decide) ?_
  refine x_aload_n 227 0 dX9_longest_227 rfl rfl ?_
  obtain ⟨h31, H⟩ := x_ckp H
  refine x_getf 228 7 9 1 (.int (x_i M v0 1)) dX9_longest_228 lk_1029 (by decide) (by decide) rfl (fun _ => rfl) h31 ?_
  refine x_imul 231 dX9_longest_231 ?_
  refine x_bipush 232 (10 : Int32) dX9_longest_232 (by decide) ?_
  refine x_iadd 234 dX9_longest_234 ?_
  refine x_icmp_ge 235 258 dX9_longest_235 (by decide) (fun c32 => ?_) (fun c32 => ?_)
  · replace H := x_ifp c32 H
    refine x_iinc 258 4 (v4 + (1 : Int32)) [some (.ref v0), some (.int v1), some (.int v2), some (.int v3), some (.int (v4 + (1 : Int32))), some (.int v5), none, none, none] dX9_longest_258 rfl (congrArg (fun z : Int32 => v4 + z) (show Int32.ofInt (1) = (1 : Int32) by decide)) rfl (Nat.le_of_ble_eq_true rfl) rfl ?_
    refine x_goto 261 64 dX9_longest_261 (by decide) ?_
    exact x_wk (le_s (le_s (le_s (le_s (le_s (le_n (le_s (le_s (le_s le_0))))))))) (hκ64 _ _ _ _ _ _ H)
  · replace H := x_ifn c32 H
    refine x_aload_n 238 0 dX9_longest_238 rfl rfl ?_
    refine x_getf 239 81 9 35 (.ref (x_r M v0 35)) dX9_longest_239 lk_1063 (by decide) (by decide) rfl (fun _ => rfl) h31 ?_
    refine x_iload 242 5 dX9_longest_242 rfl ?_
    refine x_aload_n 244 0 dX9_longest_244 rfl rfl ?_
    refine x_getf 245 84 9 36 (.ref (x_r M v0 36)) dX9_longest_245 lk_1064 (by decide) (by decide) rfl (fun _ => rfl) h31 ?_
    refine x_iload 248 5 dX9_longest_248 rfl ?_
    obtain ⟨h33, H⟩ := x_ckp H
    refine x_iald 250 dX9_longest_250 h33 ?_
    obtain ⟨h34, H⟩ := x_ckp H
    obtain ⟨M35, w36, H⟩ := x_lt_of H
    have h37 : x_tag M35 v0 = 9 + 10 := by rw [w36]; exact h31
    have h38 : x_at M35 (x_r M v0 36) 1 v5 = true := by rw [w36]; exact h33
    have h39 : x_tag M35 (x_r M v0 36) = 1 := by rw [w36]; exact (x_at_1 h33)
    have h40 : x_at M35 (x_r M v0 35) 1 v5 = true := by rw [w36]; exact h34
    have h41 : x_tag M35 (x_r M v0 35) = 1 := by rw [w36]; exact (x_at_1 h34)
    refine x_iast' 251 dX9_longest_251 h34 w36 ?_
    refine x_iinc 252 5 (v5 + (1 : Int32)) [some (.ref v0), some (.int v1), some (.int v2), some (.int v3), some (.int v4), some (.int (v5 + (1 : Int32))), none, none, none] dX9_longest_252 rfl (congrArg (fun z : Int32 => v5 + z) (show Int32.ofInt (1) = (1 : Int32) by decide)) rfl (Nat.le_of_ble_eq_true rfl) rfl ?_
    refine x_goto 255 223 dX9_longest_255 (by decide) ?_
    exact hκ223 _ _ _ _ _ _ _ H

def lp_X9_longest_223 (κ64 : Nat → Int32 → Int32 → Int32 → Int32 → XM → Option (Int32 × XM)) (n : Nat) : Nat → Int32 → Int32 → Int32 → Int32 → Int32 → XM → Option (Int32 × XM) := x_rec (fun _ _ _ _ _ _ _ => none) (bd_X9_longest_223 κ64) n
theorem t_X9_longest_223 (l : Launch) {κ64 : Nat → Int32 → Int32 → Int32 → Int32 → XM → Option (Int32 × XM)} {q : Int32 × XM} (hκ64 : ∀ (v0 : Nat) (v1 : Int32) (v2 : Int32) (v3 : Int32) (v4 : Int32) (M : XM), κ64 v0 v1 v2 v3 v4 M = some q → AW l m_X9_longest 3 0 0 (x_Ri q) 0 0 64 [some (.ref v0), some (.int v1), some (.int v2), some (.int v3), some (.int v4), none, none, none, none] [] M) : ∀ (n : Nat) (v0 : Nat) (v1 : Int32) (v2 : Int32) (v3 : Int32) (v4 : Int32) (v5 : Int32) (M : XM), lp_X9_longest_223 κ64 n v0 v1 v2 v3 v4 v5 M = some q → AW l m_X9_longest 3 0 0 (x_Ri q) 0 0 223 [some (.ref v0), some (.int v1), some (.int v2), some (.int v3), some (.int v4), some (.int v5), none, none, none] [] M := by
  intro n
  induction n with
  | zero => intro v0 v1 v2 v3 v4 v5 M H; cases H
  | succ n ih => intro v0 v1 v2 v3 v4 v5 M H; exact tb_X9_longest_223 l hκ64 ih H
def f_X9_longest_206 (κ64 : Nat → Int32 → Int32 → Int32 → Int32 → XM → Option (Int32 × XM)) (κ110 : Nat → Int32 → Int32 → Int32 → Int32 → Int32 → XM → Option (Int32 × XM)) (κ118 : Nat → Int32 → Int32 → Int32 → Int32 → Int32 → Int32 → XM → Option (Int32 × XM)) (v0 : Nat) (v1 : Int32) (v2 : Int32) (v3 : Int32) (v4 : Int32) (v5 : Int32) (v6 : Int32) (s0 : Int32) (s1 : Int32) (s2 : Int32) (s3 : Nat) (M : XM) : Option (Int32 × XM) :=
  if x_at M s3 1 s2 = true then (x_lt (x_wi M s3 s2.toNatClampNeg (s1 + s0)) (fun M49 => κ118 v0 v1 v2 v3 v4 v5 (v6 + (1 : Int32)) M49)) else none
set_option maxRecDepth 20000 in
set_option maxHeartbeats 4000000 in
theorem t_X9_longest_206 (l : Launch) {κ64 : Nat → Int32 → Int32 → Int32 → Int32 → XM → Option (Int32 × XM)} {κ110 : Nat → Int32 → Int32 → Int32 → Int32 → Int32 → XM → Option (Int32 × XM)} {κ118 : Nat → Int32 → Int32 → Int32 → Int32 → Int32 → Int32 → XM → Option (Int32 × XM)} {v0 : Nat} {v1 : Int32} {v2 : Int32} {v3 : Int32} {v4 : Int32} {v5 : Int32} {v6 : Int32} {s0 : Int32} {s1 : Int32} {s2 : Int32} {s3 : Nat} {M : XM} {q : Int32 × XM} (hκ64 : ∀ (v0 : Nat) (v1 : Int32) (v2 : Int32) (v3 : Int32) (v4 : Int32) (M : XM), κ64 v0 v1 v2 v3 v4 M = some q → AW l m_X9_longest 3 0 0 (x_Ri q) 0 0 64 [some (.ref v0), some (.int v1), some (.int v2), some (.int v3), some (.int v4), none, none, none, none] [] M) (hκ110 : ∀ (v0 : Nat) (v1 : Int32) (v2 : Int32) (v3 : Int32) (v4 : Int32) (v5 : Int32) (M : XM), κ110 v0 v1 v2 v3 v4 v5 M = some q → AW l m_X9_longest 3 0 0 (x_Ri q) 0 0 110 [some (.ref v0), some (.int v1), some (.int v2), some (.int v3), some (.int v4), some (.int v5), none, none, none] [] M) (hκ118 : ∀ (v0 : Nat) (v1 : Int32) (v2 : Int32) (v3 : Int32) (v4 : Int32) (v5 : Int32) (v6 : Int32) (M : XM), κ118 v0 v1 v2 v3 v4 v5 v6 M = some q → AW l m_X9_longest 3 0 0 (x_Ri q) 0 0 118 [some (.ref v0), some (.int v1), some (.int v2), some (.int v3), some (.int v4), some (.int v5), some (.int v6), none, none] [] M) (H : f_X9_longest_206 κ64 κ110 κ118 v0 v1 v2 v3 v4 v5 v6 s0 s1 s2 s3 M = some q) : AW l m_X9_longest 3 0 0 (x_Ri q) 0 0 206 [some (.ref v0), some (.int v1), some (.int v2), some (.int v3), some (.int v4), some (.int v5), some (.int v6), none, none] [(.int s0), (.int s1), (.int s2), (.ref s3)] M := by
  unfold f_X9_longest_206 at H
  refine x_iadd 206 dX9_longest_206 ?_
  obtain ⟨h48, H⟩ := x_ckp H
  obtain ⟨M49, w50, H⟩ := x_lt_of H
  have h51 : x_at M49 s3 1 s2 = true := by rw [w50]; exact h48
  have h52 : x_tag M49 s3 = 1 := by rw [w50]; exact (x_at_1 h48)
  refine x_iast' 207 dX9_longest_207 h48 w50 ?_
  refine x_iinc 208 6 (v6 + (1 : Int32)) [some (.ref v0), some (.int v1), some (.int v2), some (.int v3), some (.int v4), some (.int v5), some (.int (v6 + (1 : Int32))), none, none] dX9_longest_208 rfl (congrArg (fun z : Int32 => v6 + z) (show Int32.ofInt (1) = (1 : Int32) by decide)) rfl (Nat.le_of_ble_eq_true rfl) rfl ?_
  refine x_goto 211 118 dX9_longest_211 (by decide) ?_
  exact hκ118 _ _ _ _ _ _ _ _ H

def f_X9_longest_177 (κ64 : Nat → Int32 → Int32 → Int32 → Int32 → XM → Option (Int32 × XM)) (κ110 : Nat → Int32 → Int32 → Int32 → Int32 → Int32 → XM → Option (Int32 × XM)) (κ118 : Nat → Int32 → Int32 → Int32 → Int32 → Int32 → Int32 → XM → Option (Int32 × XM)) (v0 : Nat) (v1 : Int32) (v2 : Int32) (v3 : Int32) (v4 : Int32) (v5 : Int32) (v6 : Int32) (v7 : Int32) (s0 : Int32) (M : XM) : Option (Int32 × XM) :=
  if x_tag M v0 = 9 + 10 then (if s0 ≤ v7 then (f_X9_longest_206 κ64 κ110 κ118 v0 v1 v2 v3 v4 v5 v6 v7 (1 : Int32) (((10 : Int32) * v5) + v6) (x_r M v0 36) M) else (f_X9_longest_206 κ64 κ110 κ118 v0 v1 v2 v3 v4 v5 v6 s0 (1 : Int32) (((10 : Int32) * v5) + v6) (x_r M v0 36) M)) else none
set_option maxRecDepth 20000 in
set_option maxHeartbeats 4000000 in
theorem t_X9_longest_177 (l : Launch) {κ64 : Nat → Int32 → Int32 → Int32 → Int32 → XM → Option (Int32 × XM)} {κ110 : Nat → Int32 → Int32 → Int32 → Int32 → Int32 → XM → Option (Int32 × XM)} {κ118 : Nat → Int32 → Int32 → Int32 → Int32 → Int32 → Int32 → XM → Option (Int32 × XM)} {v0 : Nat} {v1 : Int32} {v2 : Int32} {v3 : Int32} {v4 : Int32} {v5 : Int32} {v6 : Int32} {v7 : Int32} {s0 : Int32} {M : XM} {q : Int32 × XM} (hκ64 : ∀ (v0 : Nat) (v1 : Int32) (v2 : Int32) (v3 : Int32) (v4 : Int32) (M : XM), κ64 v0 v1 v2 v3 v4 M = some q → AW l m_X9_longest 3 0 0 (x_Ri q) 0 0 64 [some (.ref v0), some (.int v1), some (.int v2), some (.int v3), some (.int v4), none, none, none, none] [] M) (hκ110 : ∀ (v0 : Nat) (v1 : Int32) (v2 : Int32) (v3 : Int32) (v4 : Int32) (v5 : Int32) (M : XM), κ110 v0 v1 v2 v3 v4 v5 M = some q → AW l m_X9_longest 3 0 0 (x_Ri q) 0 0 110 [some (.ref v0), some (.int v1), some (.int v2), some (.int v3), some (.int v4), some (.int v5), none, none, none] [] M) (hκ118 : ∀ (v0 : Nat) (v1 : Int32) (v2 : Int32) (v3 : Int32) (v4 : Int32) (v5 : Int32) (v6 : Int32) (M : XM), κ118 v0 v1 v2 v3 v4 v5 v6 M = some q → AW l m_X9_longest 3 0 0 (x_Ri q) 0 0 118 [some (.ref v0), some (.int v1), some (.int v2), some (.int v3), some (.int v4), some (.int v5), some (.int v6), none, none] [] M) (H : f_X9_longest_177 κ64 κ110 κ118 v0 v1 v2 v3 v4 v5 v6 v7 s0 M = some q) : AW l m_X9_longest 3 0 0 (x_Ri q) 0 0 177 [some (.ref v0), some (.int v1), some (.int v2), some (.int v3), some (.int v4), some (.int v5), some (.int v6), some (.int v7), none] [(.int s0)] M := by
  unfold f_X9_longest_177 at H
  refine x_istore 177 8 [some (.ref v0), some (.int v1), some (.int v2), some (.int v3), some (.int v4), some (.int v5), some (.int v6), some (.int v7), some (.int s0)] dX9_longest_177 rfl (Nat.le_of_ble_eq_true rfl) rfl ?_
  refine x_aload_n 179 0 dX9_longest_179 rfl rfl ?_
  obtain ⟨h46, H⟩ := x_ckp H
  refine x_getf 180 84 9 36 (.ref (x_r M v0 36)) dX9_longest_180 lk_1064 (by decide) (by decide) rfl (fun _ => rfl) h46 ?_
  refine x_bipush 183 (10 : Int32) dX9_longest_183 (by decide) ?_
  refine x_iload 185 5 dX9_longest_185 rfl ?_
  refine x_imul 187 dX9_longest_187 ?_
  refine x_iload 188 6 dX9_longest_188 rfl ?_
  refine x_iadd 190 dX9_longest_190 ?_
  refine x_iconst 191 (1 : Int32) dX9_longest_191 (by decide) ?_
  refine x_iload 192 8 dX9_longest_192 rfl ?_
  refine x_iload 194 7 dX9_longest_194 rfl ?_
  refine x_icmp_le 196 204 dX9_longest_196 (by decide) (fun c47 => ?_) (fun c47 => ?_)
  · replace H := x_ifp c47 H
    refine x_iload 204 7 dX9_longest_204 rfl ?_
    exact x_wk (le_s (le_s (le_s (le_s (le_s (le_s (le_s (le_n (le_n le_0))))))))) (t_X9_longest_206 l hκ64 hκ110 hκ118 H)
  · replace H := x_ifn c47 H
    refine x_iload 199 8 dX9_longest_199 rfl ?_
    refine x_goto 201 206 dX9_longest_201 (by decide) ?_
    exact x_wk (le_s (le_s (le_s (le_s (le_s (le_s (le_s (le_n (le_n le_0))))))))) (t_X9_longest_206 l hκ64 hκ110 hκ118 H)

def bd_X9_longest_118 (κ64 : Nat → Int32 → Int32 → Int32 → Int32 → XM → Option (Int32 × XM)) (κ110 : Nat → Int32 → Int32 → Int32 → Int32 → Int32 → XM → Option (Int32 × XM)) (κ118 : Nat → Int32 → Int32 → Int32 → Int32 → Int32 → Int32 → XM → Option (Int32 × XM)) (v0 : Nat) (v1 : Int32) (v2 : Int32) (v3 : Int32) (v4 : Int32) (v5 : Int32) (v6 : Int32) (M : XM) : Option (Int32 × XM) :=
  if v3 ≤ v6 then (κ110 v0 v1 v2 v3 v4 (v5 + (-1 : Int32)) M) else (if x_tag M v0 = 9 + 10 then (if x_at M (x_r M v0 36) 1 ((((10 : Int32) * v5) + (10 : Int32)) + v6) = true then (if v4 = 0 then (f_X9_longest_177 κ64 κ110 κ118 v0 v1 v2 v3 v4 v5 v6 (x_i M (x_r M v0 36) ((((10 : Int32) * v5) + (10 : Int32)) + v6).toNatClampNeg) (0 : Int32) M) else (x_bd (f_X9_left v0 v1 v5 (v6 + (1 : Int32)) M) (fun r54 M53 => if v3 = 0 then none else if x_at M53 (x_r M v0 35) 1 (((10 : Int32) * r54) + ((v6 + (1 : Int32)) - (v6 + (1 : Int32)) / v3 * v3)) = true then (f_X9_longest_177 κ64 κ110 κ118 v0 v1 v2 v3 v4 v5 v6 (x_i M (x_r M v0 36) ((((10 : Int32) * v5) + (10 : Int32)) + v6).toNatClampNeg) (x_i M53 (x_r M v0 35) (((10 : Int32) * r54) + ((v6 + (1 : Int32)) - (v6 + (1 : Int32)) / v3 * v3)).toNatClampNeg) M53) else none))) else none) else none)
set_option maxRecDepth 20000 in
set_option maxHeartbeats 4000000 in
theorem tb_X9_longest_118 (l : Launch) {κ64 : Nat → Int32 → Int32 → Int32 → Int32 → XM → Option (Int32 × XM)} {κ110 : Nat → Int32 → Int32 → Int32 → Int32 → Int32 → XM → Option (Int32 × XM)} {κ118 : Nat → Int32 → Int32 → Int32 → Int32 → Int32 → Int32 → XM → Option (Int32 × XM)} {v0 : Nat} {v1 : Int32} {v2 : Int32} {v3 : Int32} {v4 : Int32} {v5 : Int32} {v6 : Int32} {M : XM} {q : Int32 × XM} (hκ64 : ∀ (v0 : Nat) (v1 : Int32) (v2 : Int32) (v3 : Int32) (v4 : Int32) (M : XM), κ64 v0 v1 v2 v3 v4 M = some q → AW l m_X9_longest 3 0 0 (x_Ri q) 0 0 64 [some (.ref v0), some (.int v1), some (.int v2), some (.int v3), some (.int v4), none, none, none, none] [] M) (hκ110 : ∀ (v0 : Nat) (v1 : Int32) (v2 : Int32) (v3 : Int32) (v4 : Int32) (v5 : Int32) (M : XM), κ110 v0 v1 v2 v3 v4 v5 M = some q → AW l m_X9_longest 3 0 0 (x_Ri q) 0 0 110 [some (.ref v0), some (.int v1), some (.int v2), some (.int v3), some (.int v4), some (.int v5), none, none, none] [] M) (hκ118 : ∀ (v0 : Nat) (v1 : Int32) (v2 : Int32) (v3 : Int32) (v4 : Int32) (v5 : Int32) (v6 : Int32) (M : XM), κ118 v0 v1 v2 v3 v4 v5 v6 M = some q → AW l m_X9_longest 3 0 0 (x_Ri q) 0 0 118 [some (.ref v0), some (.int v1), some (.int v2), some (.int v3), some (.int v4), some (.int v5), some (.int v6), none, none] [] M) (H : bd_X9_longest_118 κ64 κ110 κ118 v0 v1 v2 v3 v4 v5 v6 M = some q) : AW l m_X9_longest 3 0 0 (x_Ri q) 0 0 118 [some (.ref v0), some (.int v1), some (.int v2), some (.int v3), some (.int v4), some (.int v5), some (.int v6), none, none] [] M := by
  unfold bd_X9_longest_118 at H
  refine x_iload 118 6 dX9_longest_118 rfl ?_
  refine x_iload_n 120 3 dX9_longest_120 rfl rfl ?_
  refine x_icmp_ge 121 214 dX9_longest_121 (by decide) (fun c42 => ?_) (fun c42 => ?_)
  · replace H := x_ifp c42 H
    refine x_iinc 214 5 (v5 + (-1 : Int32)) [some (.ref v0), some (.int v1), some (.int v2), some (.int v3), some (.int v4), some (.int (v5 + (-1 : Int32))), some (.int v6), none, none] dX9_longest_214 rfl (congrArg (fun z : Int32 => v5 + z) (show Int32.ofInt (-1) = (-1 : Int32) by decide)) rfl (Nat.le_of_ble_eq_true rfl) rfl ?_
    refine x_goto 217 110 dX9_longest_217 (by decide) ?_
    exact x_wk (le_s (le_s (le_s (le_s (le_s (le_s (le_n (le_s (le_s le_0))))))))) (hκ110 _ _ _ _ _ _ _ H)
  · replace H := x_ifn c42 H
    refine x_aload_n 124 0 dX9_longest_124 rfl rfl ?_
    obtain ⟨h43, H⟩ := x_ckp H
    refine x_getf 125 84 9 36 (.ref (x_r M v0 36)) dX9_longest_125 lk_1064 (by decide) (by decide) rfl (fun _ => rfl) h43 ?_
    refine x_bipush 128 (10 : Int32) dX9_longest_128 (by decide) ?_
    refine x_iload 130 5 dX9_longest_130 rfl ?_
    refine x_imul 132 dX9_longest_132 ?_
    refine x_bipush 133 (10 : Int32) dX9_longest_133 (by decide) ?_
    refine x_iadd 135 dX9_longest_135 ?_
    refine x_iload 136 6 dX9_longest_136 rfl ?_
    refine x_iadd 138 dX9_longest_138 ?_
    obtain ⟨h44, H⟩ := x_ckp H
    refine x_iald 139 dX9_longest_139 h44 ?_
    refine x_istore 140 7 [some (.ref v0), some (.int v1), some (.int v2), some (.int v3), some (.int v4), some (.int v5), some (.int v6), some (.int (x_i M (x_r M v0 36) ((((10 : Int32) * v5) + (10 : Int32)) + v6).toNatClampNeg)), none] dX9_longest_140 rfl (Nat.le_of_ble_eq_true rfl) rfl ?_
    refine x_iload 142 4 dX9_longest_142 rfl ?_
    refine x_if_ne 144 151 dX9_longest_144 (by decide) (fun c45 => ?_) (fun c45 => ?_)
    · replace H := x_ifn c45 H
      refine x_aload_n 151 0 dX9_longest_151 rfl rfl ?_
      refine x_getf 152 81 9 35 (.ref (x_r M v0 35)) dX9_longest_152 lk_1063 (by decide) (by decide) rfl (fun _ => rfl) h43 ?_
      refine x_bipush 155 (10 : Int32) dX9_longest_155 (by decide) ?_
      refine x_aload_n 157 0 dX9_longest_157 rfl rfl ?_
      refine x_iload_n 158 1 dX9_longest_158 rfl rfl ?_
      refine x_iload 159 5 dX9_longest_159 rfl ?_
      refine x_iload 161 6 dX9_longest_161 rfl ?_
      refine x_iconst 163 (1 : Int32) dX9_longest_163 (by decide) ?_
      refine x_iadd 164 dX9_longest_164 ?_
      obtain ⟨r54, M53, e55, H⟩ := x_bd_of H
      refine x_callV 165 183 9 [(.int v1), (.int v5), (.int (v6 + (1 : Int32)))] [(.int (10 : Int32)), (.ref (x_r M v0 35))] dX9_longest_165 (ct_X9_left l e55) lk_1271 lk_1273 lk_53 (by decide) h43 lk_94 lk_1274 ⟨cn_X9_left, (by decide), by decide⟩ rfl (Nat.le_of_ble_eq_true rfl) (Nat.le_of_ble_eq_true rfl) (Nat.le_of_ble_eq_true rfl) (x_ri ?_)
      refine x_imul 168 dX9_longest_168 ?_
      refine x_iload 169 6 dX9_longest_169 rfl ?_
      refine x_iconst 171 (1 : Int32) dX9_longest_171 (by decide) ?_
      refine x_iadd 172 dX9_longest_172 ?_
      refine x_iload_n 173 3 dX9_longest_173 rfl rfl ?_
      obtain ⟨h56, H⟩ := x_cnz H
      refine x_irem 174 dX9_longest_174 h56 ?_
      refine x_iadd 175 dX9_longest_175 ?_
      obtain ⟨h57, H⟩ := x_ckp H
      refine x_iald 176 dX9_longest_176 h57 ?_
      exact t_X9_longest_177 l hκ64 hκ110 hκ118 H
    · replace H := x_ifp c45 H
      refine x_iconst 147 (0 : Int32) dX9_longest_147 (by decide) ?_
      refine x_goto 148 177 dX9_longest_148 (by decide) ?_
      exact t_X9_longest_177 l hκ64 hκ110 hκ118 H

def lp_X9_longest_118 (κ64 : Nat → Int32 → Int32 → Int32 → Int32 → XM → Option (Int32 × XM)) (κ110 : Nat → Int32 → Int32 → Int32 → Int32 → Int32 → XM → Option (Int32 × XM)) (n : Nat) : Nat → Int32 → Int32 → Int32 → Int32 → Int32 → Int32 → XM → Option (Int32 × XM) := x_rec (fun _ _ _ _ _ _ _ _ => none) (bd_X9_longest_118 κ64 κ110) n
theorem t_X9_longest_118 (l : Launch) {κ64 : Nat → Int32 → Int32 → Int32 → Int32 → XM → Option (Int32 × XM)} {κ110 : Nat → Int32 → Int32 → Int32 → Int32 → Int32 → XM → Option (Int32 × XM)} {q : Int32 × XM} (hκ64 : ∀ (v0 : Nat) (v1 : Int32) (v2 : Int32) (v3 : Int32) (v4 : Int32) (M : XM), κ64 v0 v1 v2 v3 v4 M = some q → AW l m_X9_longest 3 0 0 (x_Ri q) 0 0 64 [some (.ref v0), some (.int v1), some (.int v2), some (.int v3), some (.int v4), none, none, none, none] [] M) (hκ110 : ∀ (v0 : Nat) (v1 : Int32) (v2 : Int32) (v3 : Int32) (v4 : Int32) (v5 : Int32) (M : XM), κ110 v0 v1 v2 v3 v4 v5 M = some q → AW l m_X9_longest 3 0 0 (x_Ri q) 0 0 110 [some (.ref v0), some (.int v1), some (.int v2), some (.int v3), some (.int v4), some (.int v5), none, none, none] [] M) : ∀ (n : Nat) (v0 : Nat) (v1 : Int32) (v2 : Int32) (v3 : Int32) (v4 : Int32) (v5 : Int32) (v6 : Int32) (M : XM), lp_X9_longest_118 κ64 κ110 n v0 v1 v2 v3 v4 v5 v6 M = some q → AW l m_X9_longest 3 0 0 (x_Ri q) 0 0 118 [some (.ref v0), some (.int v1), some (.int v2), some (.int v3), some (.int v4), some (.int v5), some (.int v6), none, none] [] M := by
  intro n
  induction n with
  | zero => intro v0 v1 v2 v3 v4 v5 v6 M H; cases H
  | succ n ih => intro v0 v1 v2 v3 v4 v5 v6 M H; exact tb_X9_longest_118 l hκ64 hκ110 ih H
def bd_X9_longest_110 (κ64 : Nat → Int32 → Int32 → Int32 → Int32 → XM → Option (Int32 × XM)) (κ110 : Nat → Int32 → Int32 → Int32 → Int32 → Int32 → XM → Option (Int32 × XM)) (v0 : Nat) (v1 : Int32) (v2 : Int32) (v3 : Int32) (v4 : Int32) (v5 : Int32) (M : XM) : Option (Int32 × XM) :=
  if v5 < 0 then (lp_X9_longest_223 κ64 x_fuel v0 v1 v2 v3 v4 (0 : Int32) M) else (lp_X9_longest_118 κ64 κ110 x_fuel v0 v1 v2 v3 v4 v5 (0 : Int32) M)
set_option maxRecDepth 20000 in
set_option maxHeartbeats 4000000 in
theorem tb_X9_longest_110 (l : Launch) {κ64 : Nat → Int32 → Int32 → Int32 → Int32 → XM → Option (Int32 × XM)} {κ110 : Nat → Int32 → Int32 → Int32 → Int32 → Int32 → XM → Option (Int32 × XM)} {v0 : Nat} {v1 : Int32} {v2 : Int32} {v3 : Int32} {v4 : Int32} {v5 : Int32} {M : XM} {q : Int32 × XM} (hκ64 : ∀ (v0 : Nat) (v1 : Int32) (v2 : Int32) (v3 : Int32) (v4 : Int32) (M : XM), κ64 v0 v1 v2 v3 v4 M = some q → AW l m_X9_longest 3 0 0 (x_Ri q) 0 0 64 [some (.ref v0), some (.int v1), some (.int v2), some (.int v3), some (.int v4), none, none, none, none] [] M) (hκ110 : ∀ (v0 : Nat) (v1 : Int32) (v2 : Int32) (v3 : Int32) (v4 : Int32) (v5 : Int32) (M : XM), κ110 v0 v1 v2 v3 v4 v5 M = some q → AW l m_X9_longest 3 0 0 (x_Ri q) 0 0 110 [some (.ref v0), some (.int v1), some (.int v2), some (.int v3), some (.int v4), some (.int v5), none, none, none] [] M) (H : bd_X9_longest_110 κ64 κ110 v0 v1 v2 v3 v4 v5 M = some q) : AW l m_X9_longest 3 0 0 (x_Ri q) 0 0 110 [some (.ref v0), some (.int v1), some (.int v2), some (.int v3), some (.int v4), some (.int v5), none, none, none] [] M := by
  unfold bd_X9_longest_110 at H
  refine x_iload 110 5 dX9_longest_110 rfl ?_
  refine x_if_lt 112 220 dX9_longest_112 (by decide) (fun c30 => ?_) (fun c30 => ?_)
  · replace H := x_ifp c30 H
    refine x_iconst 220 (0 : Int32) dX9_longest_220 (by decide) ?_
    refine x_istore 221 5 [some (.ref v0), some (.int v1), some (.int v2), some (.int v3), some (.int v4), some (.int (0 : Int32)), none, none, none] dX9_longest_221 rfl (Nat.le_of_ble_eq_true rfl) rfl ?_
    exact t_X9_longest_223 l hκ64 _ _ _ _ _ _ _ _ H
  · replace H := x_ifn c30 H
    refine x_iconst 115 (0 : Int32) dX9_longest_115 (by decide) ?_
    refine x_istore 116 6 [some (.ref v0), some (.int v1), some (.int v2), some (.int v3), some (.int v4), some (.int v5), some (.int (0 : Int32)), none, none] dX9_longest_116 rfl (Nat.le_of_ble_eq_true rfl) rfl ?_
    exact t_X9_longest_118 l hκ64 hκ110 _ _ _ _ _ _ _ _ _ H

def lp_X9_longest_110 (κ64 : Nat → Int32 → Int32 → Int32 → Int32 → XM → Option (Int32 × XM)) (n : Nat) : Nat → Int32 → Int32 → Int32 → Int32 → Int32 → XM → Option (Int32 × XM) := x_rec (fun _ _ _ _ _ _ _ => none) (bd_X9_longest_110 κ64) n
theorem t_X9_longest_110 (l : Launch) {κ64 : Nat → Int32 → Int32 → Int32 → Int32 → XM → Option (Int32 × XM)} {q : Int32 × XM} (hκ64 : ∀ (v0 : Nat) (v1 : Int32) (v2 : Int32) (v3 : Int32) (v4 : Int32) (M : XM), κ64 v0 v1 v2 v3 v4 M = some q → AW l m_X9_longest 3 0 0 (x_Ri q) 0 0 64 [some (.ref v0), some (.int v1), some (.int v2), some (.int v3), some (.int v4), none, none, none, none] [] M) : ∀ (n : Nat) (v0 : Nat) (v1 : Int32) (v2 : Int32) (v3 : Int32) (v4 : Int32) (v5 : Int32) (M : XM), lp_X9_longest_110 κ64 n v0 v1 v2 v3 v4 v5 M = some q → AW l m_X9_longest 3 0 0 (x_Ri q) 0 0 110 [some (.ref v0), some (.int v1), some (.int v2), some (.int v3), some (.int v4), some (.int v5), none, none, none] [] M := by
  intro n
  induction n with
  | zero => intro v0 v1 v2 v3 v4 v5 M H; cases H
  | succ n ih => intro v0 v1 v2 v3 v4 v5 M H; exact tb_X9_longest_110 l hκ64 ih H
def bd_X9_longest_73 (κ64 : Nat → Int32 → Int32 → Int32 → Int32 → XM → Option (Int32 × XM)) (κ73 : Nat → Int32 → Int32 → Int32 → Int32 → Int32 → XM → Option (Int32 × XM)) (v0 : Nat) (v1 : Int32) (v2 : Int32) (v3 : Int32) (v4 : Int32) (v5 : Int32) (M : XM) : Option (Int32 × XM) :=
  if (10 : Int32) ≤ v5 then (if x_tag M v0 = 9 + 10 then (lp_X9_longest_110 κ64 x_fuel v0 v1 v2 v3 v4 ((x_i M v0 1) - (1 : Int32)) M) else none) else (if x_tag M v0 = 9 + 10 then (if x_at M (x_r M v0 36) 1 (((10 : Int32) * (x_i M v0 1)) + v5) = true then (x_lt (x_wi M (x_r M v0 36) (((10 : Int32) * (x_i M v0 1)) + v5).toNatClampNeg (0 : Int32)) (fun M60 => κ73 v0 v1 v2 v3 v4 (v5 + (1 : Int32)) M60)) else none) else none)
set_option maxRecDepth 20000 in
set_option maxHeartbeats 4000000 in
theorem tb_X9_longest_73 (l : Launch) {κ64 : Nat → Int32 → Int32 → Int32 → Int32 → XM → Option (Int32 × XM)} {κ73 : Nat → Int32 → Int32 → Int32 → Int32 → Int32 → XM → Option (Int32 × XM)} {v0 : Nat} {v1 : Int32} {v2 : Int32} {v3 : Int32} {v4 : Int32} {v5 : Int32} {M : XM} {q : Int32 × XM} (hκ64 : ∀ (v0 : Nat) (v1 : Int32) (v2 : Int32) (v3 : Int32) (v4 : Int32) (M : XM), κ64 v0 v1 v2 v3 v4 M = some q → AW l m_X9_longest 3 0 0 (x_Ri q) 0 0 64 [some (.ref v0), some (.int v1), some (.int v2), some (.int v3), some (.int v4), none, none, none, none] [] M) (hκ73 : ∀ (v0 : Nat) (v1 : Int32) (v2 : Int32) (v3 : Int32) (v4 : Int32) (v5 : Int32) (M : XM), κ73 v0 v1 v2 v3 v4 v5 M = some q → AW l m_X9_longest 3 0 0 (x_Ri q) 0 0 73 [some (.ref v0), some (.int v1), some (.int v2), some (.int v3), some (.int v4), some (.int v5), none, none, none] [] M) (H : bd_X9_longest_73 κ64 κ73 v0 v1 v2 v3 v4 v5 M = some q) : AW l m_X9_longest 3 0 0 (x_Ri q) 0 0 73 [some (.ref v0), some (.int v1), some (.int v2), some (.int v3), some (.int v4), some (.int v5), none, none, none] [] M := by
  unfold bd_X9_longest_73 at H
  refine x_iload 73 5 dX9_longest_73 rfl ?_
  refine x_bipush 75 (10 : Int32) dX9_longest_75 (by decide) ?_
  refine x_icmp_ge 77 102 dX9_longest_77 (by decide) (fun c28 => ?_) (fun c28 => ?_)
  · replace H := x_ifp c28 H
    refine x_aload_n 102 0 dX9_longest_102 rfl rfl ?_
    obtain ⟨h29, H⟩ := x_ckp H
    refine x_getf 103 7 9 1 (.int (x_i M v0 1)) dX9_longest_103 lk_1029 (by decide) (by decide) rfl (fun _ => rfl) h29 ?_
    refine x_iconst 106 (1 : Int32) dX9_longest_106 (by decide) ?_
    refine x_isub 107 dX9_longest_107 ?_
    refine x_istore 108 5 [some (.ref v0), some (.int v1), some (.int v2), some (.int v3), some (.int v4), some (.int ((x_i M v0 1) - (1 : Int32))), none, none, none] dX9_longest_108 rfl (Nat.le_of_ble_eq_true rfl) rfl ?_
    exact t_X9_longest_110 l hκ64 _ _ _ _ _ _ _ _ H
  · replace H := x_ifn c28 H
    refine x_aload_n 80 0 dX9_longest_80 rfl rfl ?_
    obtain ⟨h58, H⟩ := x_ckp H
    refine x_getf 81 84 9 36 (.ref (x_r M v0 36)) dX9_longest_81 lk_1064 (by decide) (by decide) rfl (fun _ => rfl) h58 ?_
    refine x_bipush 84 (10 : Int32) dX9_longest_84 (by decide) ?_
    refine x_aload_n 86 0 dX9_longest_86 rfl rfl ?_
    refine x_getf 87 7 9 1 (.int (x_i M v0 1)) dX9_longest_87 lk_1029 (by decide) (by decide) rfl (fun _ => rfl) h58 ?_
    refine x_imul 90 dX9_longest_90 ?_
    refine x_iload 91 5 dX9_longest_91 rfl ?_
    refine x_iadd 93 dX9_longest_93 ?_
    refine x_iconst 94 (0 : Int32) dX9_longest_94 (by decide) ?_
    obtain ⟨h59, H⟩ := x_ckp H
    obtain ⟨M60, w61, H⟩ := x_lt_of H
    have h62 : x_tag M60 v0 = 9 + 10 := by rw [w61]; exact h58
    have h63 : x_at M60 (x_r M v0 36) 1 (((10 : Int32) * (x_i M v0 1)) + v5) = true := by rw [w61]; exact h59
    have h64 : x_tag M60 (x_r M v0 36) = 1 := by rw [w61]; exact (x_at_1 h59)
    refine x_iast' 95 dX9_longest_95 h59 w61 ?_
    refine x_iinc 96 5 (v5 + (1 : Int32)) [some (.ref v0), some (.int v1), some (.int v2), some (.int v3), some (.int v4), some (.int (v5 + (1 : Int32))), none, none, none] dX9_longest_96 rfl (congrArg (fun z : Int32 => v5 + z) (show Int32.ofInt (1) = (1 : Int32) by decide)) rfl (Nat.le_of_ble_eq_true rfl) rfl ?_
    refine x_goto 99 73 dX9_longest_99 (by decide) ?_
    exact hκ73 _ _ _ _ _ _ _ H

def lp_X9_longest_73 (κ64 : Nat → Int32 → Int32 → Int32 → Int32 → XM → Option (Int32 × XM)) (n : Nat) : Nat → Int32 → Int32 → Int32 → Int32 → Int32 → XM → Option (Int32 × XM) := x_rec (fun _ _ _ _ _ _ _ => none) (bd_X9_longest_73 κ64) n
theorem t_X9_longest_73 (l : Launch) {κ64 : Nat → Int32 → Int32 → Int32 → Int32 → XM → Option (Int32 × XM)} {q : Int32 × XM} (hκ64 : ∀ (v0 : Nat) (v1 : Int32) (v2 : Int32) (v3 : Int32) (v4 : Int32) (M : XM), κ64 v0 v1 v2 v3 v4 M = some q → AW l m_X9_longest 3 0 0 (x_Ri q) 0 0 64 [some (.ref v0), some (.int v1), some (.int v2), some (.int v3), some (.int v4), none, none, none, none] [] M) : ∀ (n : Nat) (v0 : Nat) (v1 : Int32) (v2 : Int32) (v3 : Int32) (v4 : Int32) (v5 : Int32) (M : XM), lp_X9_longest_73 κ64 n v0 v1 v2 v3 v4 v5 M = some q → AW l m_X9_longest 3 0 0 (x_Ri q) 0 0 73 [some (.ref v0), some (.int v1), some (.int v2), some (.int v3), some (.int v4), some (.int v5), none, none, none] [] M := by
  intro n
  induction n with
  | zero => intro v0 v1 v2 v3 v4 v5 M H; cases H
  | succ n ih => intro v0 v1 v2 v3 v4 v5 M H; exact tb_X9_longest_73 l hκ64 ih H
def bd_X9_longest_64 (κ64 : Nat → Int32 → Int32 → Int32 → Int32 → XM → Option (Int32 × XM)) (v0 : Nat) (v1 : Int32) (v2 : Int32) (v3 : Int32) (v4 : Int32) (M : XM) : Option (Int32 × XM) :=
  if v2 < v4 then (if x_tag M v0 = 9 + 10 then (if x_at M (x_r M v0 12) 1 v1 = true then (if x_at M (x_r M v0 14) 1 v1 = true then (if v3 = 0 then none else if x_at M (x_r M v0 35) 1 (((10 : Int32) * (x_i M (x_r M v0 12) v1.toNatClampNeg)) + ((x_i M (x_r M v0 14) v1.toNatClampNeg) - (x_i M (x_r M v0 14) v1.toNatClampNeg) / v3 * v3)) = true then (if (x_i M (x_r M v0 35) (((10 : Int32) * (x_i M (x_r M v0 12) v1.toNatClampNeg)) + ((x_i M (x_r M v0 14) v1.toNatClampNeg) - (x_i M (x_r M v0 14) v1.toNatClampNeg) / v3 * v3)).toNatClampNeg) ≤ (400 : Int32) then (some ((x_i M (x_r M v0 35) (((10 : Int32) * (x_i M (x_r M v0 12) v1.toNatClampNeg)) + ((x_i M (x_r M v0 14) v1.toNatClampNeg) - (x_i M (x_r M v0 14) v1.toNatClampNeg) / v3 * v3)).toNatClampNeg), M)) else (some ((-1 : Int32), M))) else none) else none) else none) else none) else (lp_X9_longest_73 κ64 x_fuel v0 v1 v2 v3 v4 (0 : Int32) M)
set_option maxRecDepth 20000 in
set_option maxHeartbeats 4000000 in
theorem tb_X9_longest_64 (l : Launch) {κ64 : Nat → Int32 → Int32 → Int32 → Int32 → XM → Option (Int32 × XM)} {v0 : Nat} {v1 : Int32} {v2 : Int32} {v3 : Int32} {v4 : Int32} {M : XM} {q : Int32 × XM} (hκ64 : ∀ (v0 : Nat) (v1 : Int32) (v2 : Int32) (v3 : Int32) (v4 : Int32) (M : XM), κ64 v0 v1 v2 v3 v4 M = some q → AW l m_X9_longest 3 0 0 (x_Ri q) 0 0 64 [some (.ref v0), some (.int v1), some (.int v2), some (.int v3), some (.int v4), none, none, none, none] [] M) (H : bd_X9_longest_64 κ64 v0 v1 v2 v3 v4 M = some q) : AW l m_X9_longest 3 0 0 (x_Ri q) 0 0 64 [some (.ref v0), some (.int v1), some (.int v2), some (.int v3), some (.int v4), none, none, none, none] [] M := by
  unfold bd_X9_longest_64 at H
  refine x_iload 64 4 dX9_longest_64 rfl ?_
  refine x_iload_n 66 2 dX9_longest_66 rfl rfl ?_
  refine x_icmp_gt 67 264 dX9_longest_67 (by decide) (fun c21 => ?_) (fun c21 => ?_)
  · replace H := x_ifp c21 H
    refine x_aload_n 264 0 dX9_longest_264 rfl rfl ?_
    obtain ⟨h22, H⟩ := x_ckp H
    refine x_getf 265 81 9 35 (.ref (x_r M v0 35)) dX9_longest_265 lk_1063 (by decide) (by decide) rfl (fun _ => rfl) h22 ?_
    refine x_bipush 268 (10 : Int32) dX9_longest_268 (by decide) ?_
    refine x_aload_n 270 0 dX9_longest_270 rfl rfl ?_
    refine x_getf 271 38 9 12 (.ref (x_r M v0 12)) dX9_longest_271 lk_1040 (by decide) (by decide) rfl (fun _ => rfl) h22 ?_
    refine x_iload_n 274 1 dX9_longest_274 rfl rfl ?_
    obtain ⟨h23, H⟩ := x_ckp H
    refine x_iald 275 dX9_longest_275 h23 ?_
    refine x_imul 276 dX9_longest_276 ?_
    refine x_aload_n 277 0 dX9_longest_277 rfl rfl ?_
    refine x_getf 278 44 9 14 (.ref (x_r M v0 14)) dX9_longest_278 lk_1042 (by decide) (by decide) rfl (fun _ => rfl) h22 ?_
    refine x_iload_n 281 1 dX9_longest_281 rfl rfl ?_
    obtain ⟨h24, H⟩ := x_ckp H
    refine x_iald 282 dX9_longest_282 h24 ?_
    refine x_iload_n 283 3 dX9_longest_283 rfl rfl ?_
    obtain ⟨h25, H⟩ := x_cnz H
    refine x_irem 284 dX9_longest_284 h25 ?_
    refine x_iadd 285 dX9_longest_285 ?_
    obtain ⟨h26, H⟩ := x_ckp H
    refine x_iald 286 dX9_longest_286 h26 ?_
    refine x_istore 287 4 [some (.ref v0), some (.int v1), some (.int v2), some (.int v3), some (.int (x_i M (x_r M v0 35) (((10 : Int32) * (x_i M (x_r M v0 12) v1.toNatClampNeg)) + ((x_i M (x_r M v0 14) v1.toNatClampNeg) - (x_i M (x_r M v0 14) v1.toNatClampNeg) / v3 * v3)).toNatClampNeg)), none, none, none, none] dX9_longest_287 rfl (Nat.le_of_ble_eq_true rfl) rfl ?_
    refine x_iload 289 4 dX9_longest_289 rfl ?_
    refine x_sipush 291 (400 : Int32) dX9_longest_291 (by decide) ?_
    refine x_icmp_le 294 301 dX9_longest_294 (by decide) (fun c27 => ?_) (fun c27 => ?_)
    · replace H := x_ifp c27 H
      refine x_iload 301 4 dX9_longest_301 rfl ?_
      cases H
      exact x_iret 303 dX9_longest_303 .int rfl rfl (Nat.le_of_ble_eq_true rfl) (Nat.le_of_ble_eq_true rfl) ⟨rfl, rfl⟩
    · replace H := x_ifn c27 H
      refine x_iconst 297 (-1 : Int32) dX9_longest_297 (by decide) ?_
      refine x_goto 298 303 dX9_longest_298 (by decide) ?_
      cases H
      exact x_iret 303 dX9_longest_303 .int rfl rfl (Nat.le_of_ble_eq_true rfl) (Nat.le_of_ble_eq_true rfl) ⟨rfl, rfl⟩
  · replace H := x_ifn c21 H
    refine x_iconst 70 (0 : Int32) dX9_longest_70 (by decide) ?_
    refine x_istore 71 5 [some (.ref v0), some (.int v1), some (.int v2), some (.int v3), some (.int v4), some (.int (0 : Int32)), none, none, none] dX9_longest_71 rfl (Nat.le_of_ble_eq_true rfl) rfl ?_
    exact t_X9_longest_73 l hκ64 _ _ _ _ _ _ _ _ H

def lp_X9_longest_64 (n : Nat) : Nat → Int32 → Int32 → Int32 → Int32 → XM → Option (Int32 × XM) := x_rec (fun _ _ _ _ _ _ => none) (bd_X9_longest_64) n
theorem t_X9_longest_64 (l : Launch) {q : Int32 × XM} : ∀ (n : Nat) (v0 : Nat) (v1 : Int32) (v2 : Int32) (v3 : Int32) (v4 : Int32) (M : XM), lp_X9_longest_64 n v0 v1 v2 v3 v4 M = some q → AW l m_X9_longest 3 0 0 (x_Ri q) 0 0 64 [some (.ref v0), some (.int v1), some (.int v2), some (.int v3), some (.int v4), none, none, none, none] [] M := by
  intro n
  induction n with
  | zero => intro v0 v1 v2 v3 v4 M H; cases H
  | succ n ih => intro v0 v1 v2 v3 v4 M H; exact tb_X9_longest_64 l ih H
def bd_X9_longest_39 (κ39 : Nat → Int32 → Int32 → Int32 → Int32 → XM → Option (Int32 × XM)) (v0 : Nat) (v1 : Int32) (v2 : Int32) (v3 : Int32) (v4 : Int32) (M : XM) : Option (Int32 × XM) :=
  if (2010 : Int32) ≤ v4 then (lp_X9_longest_64 x_fuel v0 v1 v2 v3 (0 : Int32) M) else (if x_tag M v0 = 9 + 10 then (if x_at M (x_r M v0 35) 1 v4 = true then (x_lt (x_wi M (x_r M v0 35) v4.toNatClampNeg (0 : Int32)) (fun M67 => κ39 v0 v1 v2 v3 (v4 + (1 : Int32)) M67)) else none) else none)
set_option maxRecDepth 20000 in
set_option maxHeartbeats 4000000 in
theorem tb_X9_longest_39 (l : Launch) {κ39 : Nat → Int32 → Int32 → Int32 → Int32 → XM → Option (Int32 × XM)} {v0 : Nat} {v1 : Int32} {v2 : Int32} {v3 : Int32} {v4 : Int32} {M : XM} {q : Int32 × XM} (hκ39 : ∀ (v0 : Nat) (v1 : Int32) (v2 : Int32) (v3 : Int32) (v4 : Int32) (M : XM), κ39 v0 v1 v2 v3 v4 M = some q → AW l m_X9_longest 3 0 0 (x_Ri q) 0 0 39 [some (.ref v0), some (.int v1), some (.int v2), some (.int v3), some (.int v4), none, none, none, none] [] M) (H : bd_X9_longest_39 κ39 v0 v1 v2 v3 v4 M = some q) : AW l m_X9_longest 3 0 0 (x_Ri q) 0 0 39 [some (.ref v0), some (.int v1), some (.int v2), some (.int v3), some (.int v4), none, none, none, none] [] M := by
  unfold bd_X9_longest_39 at H
  refine x_iload 39 4 dX9_longest_39 rfl ?_
  refine x_sipush 41 (2010 : Int32) dX9_longest_41 (by decide) ?_
  refine x_icmp_ge 44 61 dX9_longest_44 (by decide) (fun c20 => ?_) (fun c20 => ?_)
  · replace H := x_ifp c20 H
    refine x_iconst 61 (0 : Int32) dX9_longest_61 (by decide) ?_
    refine x_istore 62 4 [some (.ref v0), some (.int v1), some (.int v2), some (.int v3), some (.int (0 : Int32)), none, none, none, none] dX9_longest_62 rfl (Nat.le_of_ble_eq_true rfl) rfl ?_
    exact t_X9_longest_64 l _ _ _ _ _ _ _ H
  · replace H := x_ifn c20 H
    refine x_aload_n 47 0 dX9_longest_47 rfl rfl ?_
    obtain ⟨h65, H⟩ := x_ckp H
    refine x_getf 48 81 9 35 (.ref (x_r M v0 35)) dX9_longest_48 lk_1063 (by decide) (by decide) rfl (fun _ => rfl) h65 ?_
    refine x_iload 51 4 dX9_longest_51 rfl ?_
    refine x_iconst 53 (0 : Int32) dX9_longest_53 (by decide) ?_
    obtain ⟨h66, H⟩ := x_ckp H
    obtain ⟨M67, w68, H⟩ := x_lt_of H
    have h69 : x_tag M67 v0 = 9 + 10 := by rw [w68]; exact h65
    have h70 : x_at M67 (x_r M v0 35) 1 v4 = true := by rw [w68]; exact h66
    have h71 : x_tag M67 (x_r M v0 35) = 1 := by rw [w68]; exact (x_at_1 h66)
    refine x_iast' 54 dX9_longest_54 h66 w68 ?_
    refine x_iinc 55 4 (v4 + (1 : Int32)) [some (.ref v0), some (.int v1), some (.int v2), some (.int v3), some (.int (v4 + (1 : Int32))), none, none, none, none] dX9_longest_55 rfl (congrArg (fun z : Int32 => v4 + z) (show Int32.ofInt (1) = (1 : Int32) by decide)) rfl (Nat.le_of_ble_eq_true rfl) rfl ?_
    refine x_goto 58 39 dX9_longest_58 (by decide) ?_
    exact hκ39 _ _ _ _ _ _ H

def lp_X9_longest_39 (n : Nat) : Nat → Int32 → Int32 → Int32 → Int32 → XM → Option (Int32 × XM) := x_rec (fun _ _ _ _ _ _ => none) (bd_X9_longest_39) n
theorem t_X9_longest_39 (l : Launch) {q : Int32 × XM} : ∀ (n : Nat) (v0 : Nat) (v1 : Int32) (v2 : Int32) (v3 : Int32) (v4 : Int32) (M : XM), lp_X9_longest_39 n v0 v1 v2 v3 v4 M = some q → AW l m_X9_longest 3 0 0 (x_Ri q) 0 0 39 [some (.ref v0), some (.int v1), some (.int v2), some (.int v3), some (.int v4), none, none, none, none] [] M := by
  intro n
  induction n with
  | zero => intro v0 v1 v2 v3 v4 M H; cases H
  | succ n ih => intro v0 v1 v2 v3 v4 M H; exact tb_X9_longest_39 l ih H
def f_X9_longest (v0 : Nat) (v1 : Int32) (v2 : Int32) (M : XM) : Option (Int32 × XM) :=
  if x_tag M v0 = 9 + 10 then (x_bd (f_X9_isCounter v0 v1 M) (fun r3 M2 => if r3 = 0 then (if x_tag M2 v0 = 9 + 10 then (x_bd (f_X9_noTen v0 (-1 : Int32) M2) (fun r8 M7 => some (r8, M7))) else none) else (if v2 < 0 then (f_X9_longest_23 v0 M2) else (if v2 ≤ (5 : Int32) then (if x_tag M2 v0 = 9 + 10 then (x_bd (f_X9_turnsOf v0 v1 M2) (fun r18 M17 => lp_X9_longest_39 x_fuel v0 v1 v2 r18 (0 : Int32) M17)) else none) else (f_X9_longest_23 v0 M2))))) else none
set_option maxRecDepth 20000 in
set_option maxHeartbeats 4000000 in
theorem t_X9_longest (l : Launch) {v0 : Nat} {v1 : Int32} {v2 : Int32} {M : XM} {q : Int32 × XM} (H : f_X9_longest v0 v1 v2 M = some q) : AW l m_X9_longest 3 0 0 (x_Ri q) 0 0 0 [some (.ref v0), some (.int v1), some (.int v2), none, none, none, none, none, none] [] M := by
  unfold f_X9_longest at H
  refine x_aload_n 0 0 dX9_longest_0 rfl rfl ?_
  refine x_iload_n 1 1 dX9_longest_1 rfl rfl ?_
  obtain ⟨h1, H⟩ := x_ckp H
  obtain ⟨r3, M2, e4, H⟩ := x_bd_of H
  refine x_callV 2 104 9 [(.int v1)] [] dX9_longest_2 (ct_X9_isCounter l e4) lk_1183 lk_1185 lk_38 (by decide) h1 lk_94 lk_1186 ⟨cn_X9_isCounter, (by decide), by decide⟩ rfl (Nat.le_of_ble_eq_true rfl) (Nat.le_of_ble_eq_true rfl) (Nat.le_of_ble_eq_true rfl) (x_ri ?_)
  refine x_if_ne 5 14 dX9_longest_5 (by decide) (fun c5 => ?_) (fun c5 => ?_)
  · replace H := x_ifn c5 H
    refine x_iload_n 14 2 dX9_longest_14 rfl rfl ?_
    refine x_if_lt 15 23 dX9_longest_15 (by decide) (fun c10 => ?_) (fun c10 => ?_)
    · replace H := x_ifp c10 H
      exact x_wk (le_s (le_n (le_n (le_s (le_s (le_s (le_s (le_s (le_s le_0))))))))) (t_X9_longest_23 l H)
    · replace H := x_ifn c10 H
      refine x_iload_n 18 2 dX9_longest_18 rfl rfl ?_
      refine x_iconst 19 (5 : Int32) dX9_longest_19 (by decide) ?_
      refine x_icmp_le 20 30 dX9_longest_20 (by decide) (fun c15 => ?_) (fun c15 => ?_)
      · replace H := x_ifp c15 H
        refine x_aload_n 30 0 dX9_longest_30 rfl rfl ?_
        refine x_iload_n 31 1 dX9_longest_31 rfl rfl ?_
        obtain ⟨h16, H⟩ := x_ckp H
        obtain ⟨r18, M17, e19, H⟩ := x_bd_of H
        refine x_callV 32 221 9 [(.int v1)] [] dX9_longest_32 (ct_X9_turnsOf l e19) lk_1332 lk_1334 lk_63 (by decide) h16 lk_94 lk_1335 ⟨cn_X9_turnsOf, (by decide), by decide⟩ rfl (Nat.le_of_ble_eq_true rfl) (Nat.le_of_ble_eq_true rfl) (Nat.le_of_ble_eq_true rfl) (x_ri ?_)
        refine x_istore_n 35 3 [some (.ref v0), some (.int v1), some (.int v2), some (.int r18), none, none, none, none, none] dX9_longest_35 rfl rfl (Nat.le_of_ble_eq_true rfl) rfl ?_
        refine x_iconst 36 (0 : Int32) dX9_longest_36 (by decide) ?_
        refine x_istore 37 4 [some (.ref v0), some (.int v1), some (.int v2), some (.int r18), some (.int (0 : Int32)), none, none, none, none] dX9_longest_37 rfl (Nat.le_of_ble_eq_true rfl) rfl ?_
        exact t_X9_longest_39 l _ _ _ _ _ _ _ H
      · replace H := x_ifn c15 H
        exact x_wk (le_s (le_n (le_n (le_s (le_s (le_s (le_s (le_s (le_s le_0))))))))) (t_X9_longest_23 l H)
  · replace H := x_ifp c5 H
    refine x_aload_n 8 0 dX9_longest_8 rfl rfl ?_
    refine x_iconst 9 (-1 : Int32) dX9_longest_9 (by decide) ?_
    obtain ⟨h6, H⟩ := x_ckp H
    obtain ⟨r8, M7, e9, H⟩ := x_bd_of H
    refine x_callV 10 212 9 [(.int (-1 : Int32))] [] dX9_longest_10 (ct_X9_noTen l e9) lk_1312 lk_1314 lk_59 (by decide) h6 lk_94 lk_1315 ⟨cn_X9_noTen, (by decide), by decide⟩ rfl (Nat.le_of_ble_eq_true rfl) (Nat.le_of_ble_eq_true rfl) (Nat.le_of_ble_eq_true rfl) (x_ri ?_)
    cases H
    exact x_iret 13 dX9_longest_13 .int rfl rfl (Nat.le_of_ble_eq_true rfl) (Nat.le_of_ble_eq_true rfl) ⟨rfl, rfl⟩

theorem ct_X9_longest (l : Launch) {v0 : Nat} {v1 : Int32} {v2 : Int32} {M : XM} {q : Int32 × XM} (H : f_X9_longest v0 v1 v2 M = some q) : Ct l m_X9_longest 3 0 0 [(.ref v0), (.int v1), (.int v2)] M (x_Ri q) := x_met l m_X9_longest 3 0 0 [(.ref v0), (.int v1), (.int v2)] M (x_Ri q) _ rfl rfl (Nat.le_of_ble_eq_true rfl) (t_X9_longest l H)
