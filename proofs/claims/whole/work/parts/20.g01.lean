theorem lk_804 : Cond.code yX1_passRest cX1_passRest 9 none ∈ x_TB := x_tb (k := 804) (by decide +kernel) rfl
theorem lk_801 : Cond.methodLink RX1 101 yX1_passRest ∈ x_TB := x_tb (k := 801) (by decide +kernel) rfl
theorem lk_21 : Cond.selects RX1 yX1_passRest yX1_passRest ∈ x_TB := x_tb (k := 21) (by decide +kernel) rfl
theorem lk_803 : Cond.instanceMethod yX1_passRest ∈ x_TB := x_tb (k := 803) (by decide +kernel) rfl
abbrev m_X1_pass : XU := (yX1_pass, cX1_pass, 4, none)
theorem cn_X1_pass : m_X1_pass.1.cls ≠ "java/lang/invoke/MethodHandle" ∧ m_X1_pass.1.cls ≠ "java/lang/invoke/VarHandle" ∧ (parseMethodDescriptor m_X1_pass.1.desc).map (fun q => q.parameters.length) = some 0 := by decide +kernel
def bd_X1_pass_25 (κ25 : Nat → Int32 → Int32 → Int32 → XM → Option XM) (v0 : Nat) (v1 : Int32) (v2 : Int32) (v3 : Int32) (M : XM) : Option XM :=
  if x_tag M v0 = 1 + 10 then (if (x_i M v0 5) ≤ v3 then (x_lt (x_wr M v0 0 (x_r M v0 1)) (fun M10 => x_lt (x_wr M10 v0 1 (x_r M v0 0)) (fun M13 => some M13))) else (x_bd (f_X8_leftOver (v3 + (1 : Int32)) (x_i M v0 5) M) (fun r17 M16 => if x_tag M16 v0 = 1 + 10 then (x_bv (f_X1_passRest v0 (v3 * (200 : Int32)) (r17 * (200 : Int32)) v1 v2 M16) (fun M20 => κ25 v0 v1 v2 (v3 + (1 : Int32)) M20)) else none))) else none
set_option maxRecDepth 20000 in
set_option maxHeartbeats 4000000 in
theorem tb_X1_pass_25 (l : Launch) {κ25 : Nat → Int32 → Int32 → Int32 → XM → Option XM} {v0 : Nat} {v1 : Int32} {v2 : Int32} {v3 : Int32} {M : XM} {q : XM} (hκ25 : ∀ (v0 : Nat) (v1 : Int32) (v2 : Int32) (v3 : Int32) (M : XM), κ25 v0 v1 v2 v3 M = some q → AW l m_X1_pass 2 0 0 (x_Rv q) 0 0 25 [some (.ref v0), some (.int v1), some (.int v2), some (.int v3)] [] M) (H : bd_X1_pass_25 κ25 v0 v1 v2 v3 M = some q) : AW l m_X1_pass 2 0 0 (x_Rv q) 0 0 25 [some (.ref v0), some (.int v1), some (.int v2), some (.int v3)] [] M := by
  unfold bd_X1_pass_25 at H
  refine x_iload_n 25 3 dX1_pass_25 rfl rfl ?_
  refine x_aload_n 26 0 dX1_pass_26 rfl rfl ?_
  obtain ⟨h8, H⟩ := x_ckp H
  refine x_getf 27 64 1 5 (.int (x_i M v0 5)) dX1_pass_27 lk_273 (by decide) (by decide) rfl (fun _ => rfl) h8 ?_
  refine x_icmp_ge 30 64 dX1_pass_30 (by decide) (fun c9 => ?_) (fun c9 => ?_)
  · replace H := x_ifp c9 H
    refine x_aload_n 64 0 dX1_pass_64 rfl rfl ?_
    refine x_getf 65 9 1 0 (.ref (x_r M v0 0)) dX1_pass_65 lk_268 (by decide) (by decide) rfl (fun _ => rfl) h8 ?_
    refine x_astore_n 68 3 [some (.ref v0), some (.int v1), some (.int v2), some (.ref (x_r M v0 0))] dX1_pass_68 rfl rfl (Nat.le_of_ble_eq_true rfl) rfl ?_
    refine x_aload_n 69 0 dX1_pass_69 rfl rfl ?_
    refine x_aload_n 70 0 dX1_pass_70 rfl rfl ?_
    refine x_getf 71 15 1 1 (.ref (x_r M v0 1)) dX1_pass_71 lk_269 (by decide) (by decide) rfl (fun _ => rfl) h8 ?_
    obtain ⟨M10, w11, H⟩ := x_lt_of H
    have h12 : x_tag M10 v0 = 1 + 10 := by rw [w11]; exact h8
    refine x_putR' 74 9 1 0 dX1_pass_74 lk_268 (by decide) (by decide) rfl (Or.inr ⟨_, rfl⟩) (Or.inl rfl) h8 w11 ?_
    refine x_aload_n 77 0 dX1_pass_77 rfl rfl ?_
    refine x_aload_n 78 3 dX1_pass_78 rfl rfl ?_
    obtain ⟨M13, w14, H⟩ := x_lt_of H
    have h15 : x_tag M13 v0 = 1 + 10 := by rw [w14]; exact h12
    refine x_putR' 79 15 1 1 dX1_pass_79 lk_269 (by decide) (by decide) rfl (Or.inr ⟨_, rfl⟩) (Or.inl rfl) h12 w14 ?_
    cases H
    exact x_vret 82 dX1_pass_82 rfl (Nat.le_of_ble_eq_true rfl) (Nat.le_of_ble_eq_true rfl) ⟨rfl, rfl⟩
  · replace H := x_ifn c9 H
    refine x_aload_n 33 0 dX1_pass_33 rfl rfl ?_
    refine x_iload_n 34 3 dX1_pass_34 rfl rfl ?_
    refine x_sipush 35 (200 : Int32) dX1_pass_35 (by decide) ?_
    refine x_imul 38 dX1_pass_38 ?_
    refine x_iload_n 39 3 dX1_pass_39 rfl rfl ?_
    refine x_iconst 40 (1 : Int32) dX1_pass_40 (by decide) ?_
    refine x_iadd 41 dX1_pass_41 ?_
    refine x_aload_n 42 0 dX1_pass_42 rfl rfl ?_
    refine x_getf 43 64 1 5 (.int (x_i M v0 5)) dX1_pass_43 lk_273 (by decide) (by decide) rfl (fun _ => rfl) h8 ?_
    obtain ⟨r17, M16, e18, H⟩ := x_bd_of H
    refine x_callSN 46 91 [(.int (v3 + (1 : Int32))), (.int (x_i M v0 5))] [(.int (v3 * (200 : Int32))), (.ref v0)] dX1_pass_46 (ct_X8_leftOver l e18) (List.mem_of_getElem? (i := 11) rfl) lk_512 lk_85 lk_513 ⟨cn_X8_leftOver, (by decide), by decide⟩ rfl (Nat.le_of_ble_eq_true rfl) (Nat.le_of_ble_eq_true rfl) (Nat.le_of_ble_eq_true rfl) (x_ri ?_)
    refine x_sipush 49 (200 : Int32) dX1_pass_49 (by decide) ?_
    refine x_imul 52 dX1_pass_52 ?_
    refine x_iload_n 53 1 dX1_pass_53 rfl rfl ?_
    refine x_iload_n 54 2 dX1_pass_54 rfl rfl ?_
    obtain ⟨h19, H⟩ := x_ckp H
    obtain ⟨M20, e22, H⟩ := x_bv_of H
    refine x_callV 55 101 1 [(.int (v3 * (200 : Int32))), (.int (r17 * (200 : Int32))), (.int v1), (.int v2)] [] dX1_pass_55 (ct_X1_passRest l e22) lk_801 lk_803 lk_21 (by decide) h19 lk_90 lk_804 ⟨cn_X1_passRest, (by decide), by decide⟩ rfl (Nat.le_of_ble_eq_true rfl) (Nat.le_of_ble_eq_true rfl) (Nat.le_of_ble_eq_true rfl) (x_rv ?_)
    refine x_iinc 58 3 (v3 + (1 : Int32)) [some (.ref v0), some (.int v1), some (.int v2), some (.int (v3 + (1 : Int32)))] dX1_pass_58 rfl (congrArg (fun z : Int32 => v3 + z) (show Int32.ofInt (1) = (1 : Int32) by decide)) rfl (Nat.le_of_ble_eq_true rfl) rfl ?_
    refine x_goto 61 25 dX1_pass_61 (by decide) ?_
    exact hκ25 _ _ _ _ _ H

def lp_X1_pass_25 (n : Nat) : Nat → Int32 → Int32 → Int32 → XM → Option XM := x_rec (fun _ _ _ _ _ => none) (bd_X1_pass_25) n
theorem t_X1_pass_25 (l : Launch) {q : XM} : ∀ (n : Nat) (v0 : Nat) (v1 : Int32) (v2 : Int32) (v3 : Int32) (M : XM), lp_X1_pass_25 n v0 v1 v2 v3 M = some q → AW l m_X1_pass 2 0 0 (x_Rv q) 0 0 25 [some (.ref v0), some (.int v1), some (.int v2), some (.int v3)] [] M := by
  intro n
  induction n with
  | zero => intro v0 v1 v2 v3 M H; cases H
  | succ n ih => intro v0 v1 v2 v3 M H; exact tb_X1_pass_25 l ih H
def f_X1_pass (v0 : Nat) (M : XM) : Option XM :=
  if x_tag M v0 = 1 + 10 then (x_lt (x_wi M v0 7 (x_i M v0 3)) (fun M2 => x_lt (x_wi M2 v0 8 (-1 : Int32)) (fun M5 => lp_X1_pass_25 x_fuel v0 (x_i M v0 7) (x_i M v0 8) (0 : Int32) M5))) else none
set_option maxRecDepth 20000 in
set_option maxHeartbeats 4000000 in
theorem t_X1_pass (l : Launch) {v0 : Nat} {M : XM} {q : XM} (H : f_X1_pass v0 M = some q) : AW l m_X1_pass 2 0 0 (x_Rv q) 0 0 0 [some (.ref v0), none, none, none] [] M := by
  unfold f_X1_pass at H
  refine x_aload_n 0 0 dX1_pass_0 rfl rfl ?_
  obtain ⟨h1, H⟩ := x_ckp H
  refine x_getf 1 77 1 7 (.int (x_i M v0 7)) dX1_pass_1 lk_275 (by decide) (by decide) rfl (fun _ => rfl) h1 ?_
  refine x_istore_n 4 1 [some (.ref v0), some (.int (x_i M v0 7)), none, none] dX1_pass_4 rfl rfl (Nat.le_of_ble_eq_true rfl) rfl ?_
  refine x_aload_n 5 0 dX1_pass_5 rfl rfl ?_
  refine x_getf 6 80 1 8 (.int (x_i M v0 8)) dX1_pass_6 lk_276 (by decide) (by decide) rfl (fun _ => rfl) h1 ?_
  refine x_istore_n 9 2 [some (.ref v0), some (.int (x_i M v0 7)), some (.int (x_i M v0 8)), none] dX1_pass_9 rfl rfl (Nat.le_of_ble_eq_true rfl) rfl ?_
  refine x_aload_n 10 0 dX1_pass_10 rfl rfl ?_
  refine x_aload_n 11 0 dX1_pass_11 rfl rfl ?_
  refine x_getf 12 50 1 3 (.int (x_i M v0 3)) dX1_pass_12 lk_271 (by decide) (by decide) rfl (fun _ => rfl) h1 ?_
  obtain ⟨M2, w3, H⟩ := x_lt_of H
  have h4 : x_tag M2 v0 = 1 + 10 := by rw [w3]; exact h1
  refine x_putI' 15 77 1 7 dX1_pass_15 lk_275 (by decide) (by decide) rfl (Or.inl rfl) (Or.inl rfl) h1 w3 ?_
  refine x_aload_n 18 0 dX1_pass_18 rfl rfl ?_
  refine x_iconst 19 (-1 : Int32) dX1_pass_19 (by decide) ?_
  obtain ⟨M5, w6, H⟩ := x_lt_of H
  have h7 : x_tag M5 v0 = 1 + 10 := by rw [w6]; exact h4
  refine x_putI' 20 80 1 8 dX1_pass_20 lk_276 (by decide) (by decide) rfl (Or.inl rfl) (Or.inl rfl) h4 w6 ?_
  refine x_iconst 23 (0 : Int32) dX1_pass_23 (by decide) ?_
  refine x_istore_n 24 3 [some (.ref v0), some (.int (x_i M v0 7)), some (.int (x_i M v0 8)), some (.int (0 : Int32))] dX1_pass_24 rfl rfl (Nat.le_of_ble_eq_true rfl) rfl ?_
  exact t_X1_pass_25 l _ _ _ _ _ _ H

theorem ct_X1_pass (l : Launch) {v0 : Nat} {M : XM} {q : XM} (H : f_X1_pass v0 M = some q) : Ct l m_X1_pass 2 0 0 [(.ref v0)] M (x_Rv q) := x_met l m_X1_pass 2 0 0 [(.ref v0)] M (x_Rv q) _ rfl rfl (Nat.le_of_ble_eq_true rfl) (t_X1_pass l H)
theorem lk_800 : Cond.code yX1_pass cX1_pass 4 none ∈ x_TB := x_tb (k := 800) (by decide +kernel) rfl
theorem lk_797 : Cond.methodLink RX1 31 yX1_pass ∈ x_TB := x_tb (k := 797) (by decide +kernel) rfl
theorem lk_20 : Cond.selects RX1 yX1_pass yX1_pass ∈ x_TB := x_tb (k := 20) (by decide +kernel) rfl
theorem lk_799 : Cond.instanceMethod yX1_pass ∈ x_TB := x_tb (k := 799) (by decide +kernel) rfl
abbrev m_X1_behind : XU := (yX1_behind, cX1_behind, 5, (some .int))
theorem cn_X1_behind : m_X1_behind.1.cls ≠ "java/lang/invoke/MethodHandle" ∧ m_X1_behind.1.cls ≠ "java/lang/invoke/VarHandle" ∧ (parseMethodDescriptor m_X1_behind.1.desc).map (fun q => q.parameters.length) = some 3 := by decide +kernel
def bd_X1_behind_13 (κ13 : Nat → Int32 → Int32 → XM → Option (Int32 × XM)) (v0 : Nat) (v3 : Int32) (v4 : Int32) (M : XM) : Option (Int32 × XM) :=
  if v3 ≤ v4 then (if x_tag M v0 = 1 + 10 then (some ((x_i M v0 6), M)) else none) else (if x_tag M v0 = 1 + 10 then (x_bv (f_X1_pass v0 M) (fun M9 => κ13 v0 v3 (v4 + (1 : Int32)) M9)) else none)
set_option maxRecDepth 20000 in
set_option maxHeartbeats 4000000 in
theorem tb_X1_behind_13 (l : Launch) {κ13 : Nat → Int32 → Int32 → XM → Option (Int32 × XM)} {v0 : Nat} {v3 : Int32} {v4 : Int32} {M : XM} {q : Int32 × XM} (hκ13 : ∀ (v0 : Nat) (v3 : Int32) (v4 : Int32) (M : XM), κ13 v0 v3 v4 M = some q → AW l m_X1_behind 5 0 0 (x_Ri q) 0 0 13 [some (.ref v0), none, none, some (.int v3), some (.int v4)] [] M) (H : bd_X1_behind_13 κ13 v0 v3 v4 M = some q) : AW l m_X1_behind 5 0 0 (x_Ri q) 0 0 13 [some (.ref v0), none, none, some (.int v3), some (.int v4)] [] M := by
  unfold bd_X1_behind_13 at H
  refine x_iload 13 4 dX1_behind_13 rfl ?_
  refine x_iload_n 15 3 dX1_behind_15 rfl rfl ?_
  refine x_icmp_ge 16 29 dX1_behind_16 (by decide) (fun c6 => ?_) (fun c6 => ?_)
  · replace H := x_ifp c6 H
    refine x_aload_n 29 0 dX1_behind_29 rfl rfl ?_
    obtain ⟨h7, H⟩ := x_ckp H
    refine x_getf 30 34 1 6 (.int (x_i M v0 6)) dX1_behind_30 lk_274 (by decide) (by decide) rfl (fun _ => rfl) h7 ?_
    cases H
    exact x_iret 33 dX1_behind_33 .int rfl rfl (Nat.le_of_ble_eq_true rfl) (Nat.le_of_ble_eq_true rfl) ⟨rfl, rfl⟩
  · replace H := x_ifn c6 H
    refine x_aload_n 19 0 dX1_behind_19 rfl rfl ?_
    obtain ⟨h8, H⟩ := x_ckp H
    obtain ⟨M9, e11, H⟩ := x_bv_of H
    refine x_callV 20 31 1 [] [] dX1_behind_20 (ct_X1_pass l e11) lk_797 lk_799 lk_20 (by decide) h8 lk_90 lk_800 ⟨cn_X1_pass, (by decide), by decide⟩ rfl (Nat.le_of_ble_eq_true rfl) (Nat.le_of_ble_eq_true rfl) (Nat.le_of_ble_eq_true rfl) (x_rv ?_)
    refine x_iinc 23 4 (v4 + (1 : Int32)) [some (.ref v0), none, none, some (.int v3), some (.int (v4 + (1 : Int32)))] dX1_behind_23 rfl (congrArg (fun z : Int32 => v4 + z) (show Int32.ofInt (1) = (1 : Int32) by decide)) rfl (Nat.le_of_ble_eq_true rfl) rfl ?_
    refine x_goto 26 13 dX1_behind_26 (by decide) ?_
    exact hκ13 _ _ _ _ H

def lp_X1_behind_13 (n : Nat) : Nat → Int32 → Int32 → XM → Option (Int32 × XM) := x_rec (fun _ _ _ _ => none) (bd_X1_behind_13) n
theorem t_X1_behind_13 (l : Launch) {q : Int32 × XM} : ∀ (n : Nat) (v0 : Nat) (v3 : Int32) (v4 : Int32) (M : XM), lp_X1_behind_13 n v0 v3 v4 M = some q → AW l m_X1_behind 5 0 0 (x_Ri q) 0 0 13 [some (.ref v0), none, none, some (.int v3), some (.int v4)] [] M := by
  intro n
  induction n with
  | zero => intro v0 v3 v4 M H; cases H
  | succ n ih => intro v0 v3 v4 M H; exact tb_X1_behind_13 l ih H
def f_X1_behind (v0 : Nat) (v1 : Nat) (v2 : Int32) (v3 : Int32) (M : XM) : Option (Int32 × XM) :=
  if x_tag M v1 = 4 + 10 then (if x_tag M v0 = 1 + 10 then (x_bv (f_X1_begin v0 v1 v2 (x_i M v1 3) M) (fun M3 => lp_X1_behind_13 x_fuel v0 v3 (0 : Int32) M3)) else none) else none
set_option maxRecDepth 20000 in
set_option maxHeartbeats 4000000 in
theorem t_X1_behind (l : Launch) {v0 : Nat} {v1 : Nat} {v2 : Int32} {v3 : Int32} {M : XM} {q : Int32 × XM} (H : f_X1_behind v0 v1 v2 v3 M = some q) : AW l m_X1_behind 5 0 0 (x_Ri q) 0 0 0 [some (.ref v0), some (.ref v1), some (.int v2), some (.int v3), none] [] M := by
  unfold f_X1_behind at H
  refine x_aload_n 0 0 dX1_behind_0 rfl rfl ?_
  refine x_aload_n 1 1 dX1_behind_1 rfl rfl ?_
  refine x_iload_n 2 2 dX1_behind_2 rfl rfl ?_
  refine x_aload_n 3 1 dX1_behind_3 rfl rfl ?_
  obtain ⟨h1, H⟩ := x_ckp H
  refine x_getf 4 21 4 3 (.int (x_i M v1 3)) dX1_behind_4 lk_168 (by decide) (by decide) rfl (fun _ => rfl) h1 ?_
  obtain ⟨h2, H⟩ := x_ckp H
  obtain ⟨M3, e5, H⟩ := x_bv_of H
  refine x_callV 7 27 1 [(.ref v1), (.int v2), (.int (x_i M v1 3))] [] dX1_behind_7 (ct_X1_begin l e5) lk_776 lk_778 lk_18 (by decide) h2 lk_90 lk_779 ⟨cn_X1_begin, (by decide), by decide⟩ rfl (Nat.le_of_ble_eq_true rfl) (Nat.le_of_ble_eq_true rfl) (Nat.le_of_ble_eq_true rfl) (x_rv ?_)
  refine x_iconst 10 (0 : Int32) dX1_behind_10 (by decide) ?_
  refine x_istore 11 4 [some (.ref v0), some (.ref v1), some (.int v2), some (.int v3), some (.int (0 : Int32))] dX1_behind_11 rfl (Nat.le_of_ble_eq_true rfl) rfl ?_
  exact x_wk (le_s (le_n (le_n (le_s (le_s le_0))))) (t_X1_behind_13 l _ _ _ _ _ H)

theorem ct_X1_behind (l : Launch) {v0 : Nat} {v1 : Nat} {v2 : Int32} {v3 : Int32} {M : XM} {q : Int32 × XM} (H : f_X1_behind v0 v1 v2 v3 M = some q) : Ct l m_X1_behind 5 0 0 [(.ref v0), (.ref v1), (.int v2), (.int v3)] M (x_Ri q) := x_met l m_X1_behind 5 0 0 [(.ref v0), (.ref v1), (.int v2), (.int v3)] M (x_Ri q) _ rfl rfl (Nat.le_of_ble_eq_true rfl) (t_X1_behind l H)
abbrev m_X1_untilAtLeast : XU := (yX1_untilAtLeast, cX1_untilAtLeast, 7, (some .int))
theorem cn_X1_untilAtLeast : m_X1_untilAtLeast.1.cls ≠ "java/lang/invoke/MethodHandle" ∧ m_X1_untilAtLeast.1.cls ≠ "java/lang/invoke/VarHandle" ∧ (parseMethodDescriptor m_X1_untilAtLeast.1.desc).map (fun q => q.parameters.length) = some 5 := by decide +kernel
def bd_X1_untilAtLeast_11 (κ11 : Nat → Int32 → Int32 → Int32 → XM → Option (Int32 × XM)) (v0 : Nat) (v1 : Int32) (v5 : Int32) (v6 : Int32) (M : XM) : Option (Int32 × XM) :=
  if v5 < v6 then (some ((-1 : Int32), M)) else (if x_tag M v0 = 1 + 10 then (if (x_i M v0 6) < v1 then (x_bv (f_X1_pass v0 M) (fun M8 => κ11 v0 v1 v5 (v6 + (1 : Int32)) M8)) else (some (v6, M))) else none)
set_option maxRecDepth 20000 in
set_option maxHeartbeats 4000000 in
theorem tb_X1_untilAtLeast_11 (l : Launch) {κ11 : Nat → Int32 → Int32 → Int32 → XM → Option (Int32 × XM)} {v0 : Nat} {v1 : Int32} {v5 : Int32} {v6 : Int32} {M : XM} {q : Int32 × XM} (hκ11 : ∀ (v0 : Nat) (v1 : Int32) (v5 : Int32) (v6 : Int32) (M : XM), κ11 v0 v1 v5 v6 M = some q → AW l m_X1_untilAtLeast 5 0 0 (x_Ri q) 0 0 11 [some (.ref v0), some (.int v1), none, none, none, some (.int v5), some (.int v6)] [] M) (H : bd_X1_untilAtLeast_11 κ11 v0 v1 v5 v6 M = some q) : AW l m_X1_untilAtLeast 5 0 0 (x_Ri q) 0 0 11 [some (.ref v0), some (.int v1), none, none, none, some (.int v5), some (.int v6)] [] M := by
  unfold bd_X1_untilAtLeast_11 at H
  refine x_iload 11 6 dX1_untilAtLeast_11 rfl ?_
  refine x_iload 13 5 dX1_untilAtLeast_13 rfl ?_
  refine x_icmp_gt 15 39 dX1_untilAtLeast_15 (by decide) (fun c5 => ?_) (fun c5 => ?_)
  · replace H := x_ifp c5 H
    refine x_iconst 39 (-1 : Int32) dX1_untilAtLeast_39 (by decide) ?_
    cases H
    exact x_iret 40 dX1_untilAtLeast_40 .int rfl rfl (Nat.le_of_ble_eq_true rfl) (Nat.le_of_ble_eq_true rfl) ⟨rfl, rfl⟩
  · replace H := x_ifn c5 H
    refine x_aload_n 18 0 dX1_untilAtLeast_18 rfl rfl ?_
    obtain ⟨h6, H⟩ := x_ckp H
    refine x_getf 19 34 1 6 (.int (x_i M v0 6)) dX1_untilAtLeast_19 lk_274 (by decide) (by decide) rfl (fun _ => rfl) h6 ?_
    refine x_iload_n 22 1 dX1_untilAtLeast_22 rfl rfl ?_
    refine x_icmp_lt 23 29 dX1_untilAtLeast_23 (by decide) (fun c7 => ?_) (fun c7 => ?_)
    · replace H := x_ifp c7 H
      refine x_aload_n 29 0 dX1_untilAtLeast_29 rfl rfl ?_
      obtain ⟨M8, e10, H⟩ := x_bv_of H
      refine x_callV 30 31 1 [] [] dX1_untilAtLeast_30 (ct_X1_pass l e10) lk_797 lk_799 lk_20 (by decide) h6 lk_90 lk_800 ⟨cn_X1_pass, (by decide), by decide⟩ rfl (Nat.le_of_ble_eq_true rfl) (Nat.le_of_ble_eq_true rfl) (Nat.le_of_ble_eq_true rfl) (x_rv ?_)
      refine x_iinc 33 6 (v6 + (1 : Int32)) [some (.ref v0), some (.int v1), none, none, none, some (.int v5), some (.int (v6 + (1 : Int32)))] dX1_untilAtLeast_33 rfl (congrArg (fun z : Int32 => v6 + z) (show Int32.ofInt (1) = (1 : Int32) by decide)) rfl (Nat.le_of_ble_eq_true rfl) rfl ?_
      refine x_goto 36 11 dX1_untilAtLeast_36 (by decide) ?_
      exact hκ11 _ _ _ _ _ H
    · replace H := x_ifn c7 H
      refine x_iload 26 6 dX1_untilAtLeast_26 rfl ?_
      cases H
      exact x_iret 28 dX1_untilAtLeast_28 .int rfl rfl (Nat.le_of_ble_eq_true rfl) (Nat.le_of_ble_eq_true rfl) ⟨rfl, rfl⟩

def lp_X1_untilAtLeast_11 (n : Nat) : Nat → Int32 → Int32 → Int32 → XM → Option (Int32 × XM) := x_rec (fun _ _ _ _ _ => none) (bd_X1_untilAtLeast_11) n
theorem t_X1_untilAtLeast_11 (l : Launch) {q : Int32 × XM} : ∀ (n : Nat) (v0 : Nat) (v1 : Int32) (v5 : Int32) (v6 : Int32) (M : XM), lp_X1_untilAtLeast_11 n v0 v1 v5 v6 M = some q → AW l m_X1_untilAtLeast 5 0 0 (x_Ri q) 0 0 11 [some (.ref v0), some (.int v1), none, none, none, some (.int v5), some (.int v6)] [] M := by
  intro n
  induction n with
  | zero => intro v0 v1 v5 v6 M H; cases H
  | succ n ih => intro v0 v1 v5 v6 M H; exact tb_X1_untilAtLeast_11 l ih H
def f_X1_untilAtLeast (v0 : Nat) (v1 : Int32) (v2 : Nat) (v3 : Int32) (v4 : Int32) (v5 : Int32) (M : XM) : Option (Int32 × XM) :=
  if x_tag M v0 = 1 + 10 then (x_bv (f_X1_begin v0 v2 v3 v4 M) (fun M2 => lp_X1_untilAtLeast_11 x_fuel v0 v1 v5 (0 : Int32) M2)) else none
set_option maxRecDepth 20000 in
set_option maxHeartbeats 4000000 in
theorem t_X1_untilAtLeast (l : Launch) {v0 : Nat} {v1 : Int32} {v2 : Nat} {v3 : Int32} {v4 : Int32} {v5 : Int32} {M : XM} {q : Int32 × XM} (H : f_X1_untilAtLeast v0 v1 v2 v3 v4 v5 M = some q) : AW l m_X1_untilAtLeast 5 0 0 (x_Ri q) 0 0 0 [some (.ref v0), some (.int v1), some (.ref v2), some (.int v3), some (.int v4), some (.int v5), none] [] M := by
  unfold f_X1_untilAtLeast at H
  refine x_aload_n 0 0 dX1_untilAtLeast_0 rfl rfl ?_
  refine x_aload_n 1 2 dX1_untilAtLeast_1 rfl rfl ?_
  refine x_iload_n 2 3 dX1_untilAtLeast_2 rfl rfl ?_
  refine x_iload 3 4 dX1_untilAtLeast_3 rfl ?_
  obtain ⟨h1, H⟩ := x_ckp H
  obtain ⟨M2, e4, H⟩ := x_bv_of H
  refine x_callV 5 27 1 [(.ref v2), (.int v3), (.int v4)] [] dX1_untilAtLeast_5 (ct_X1_begin l e4) lk_776 lk_778 lk_18 (by decide) h1 lk_90 lk_779 ⟨cn_X1_begin, (by decide), by decide⟩ rfl (Nat.le_of_ble_eq_true rfl) (Nat.le_of_ble_eq_true rfl) (Nat.le_of_ble_eq_true rfl) (x_rv ?_)
  refine x_iconst 8 (0 : Int32) dX1_untilAtLeast_8 (by decide) ?_
  refine x_istore 9 6 [some (.ref v0), some (.int v1), some (.ref v2), some (.int v3), some (.int v4), some (.int v5), some (.int (0 : Int32))] dX1_untilAtLeast_9 rfl (Nat.le_of_ble_eq_true rfl) rfl ?_
  exact x_wk (le_s (le_s (le_n (le_n (le_n (le_s (le_s le_0))))))) (t_X1_untilAtLeast_11 l _ _ _ _ _ _ H)

theorem ct_X1_untilAtLeast (l : Launch) {v0 : Nat} {v1 : Int32} {v2 : Nat} {v3 : Int32} {v4 : Int32} {v5 : Int32} {M : XM} {q : Int32 × XM} (H : f_X1_untilAtLeast v0 v1 v2 v3 v4 v5 M = some q) : Ct l m_X1_untilAtLeast 5 0 0 [(.ref v0), (.int v1), (.ref v2), (.int v3), (.int v4), (.int v5)] M (x_Ri q) := x_met l m_X1_untilAtLeast 5 0 0 [(.ref v0), (.int v1), (.ref v2), (.int v3), (.int v4), (.int v5)] M (x_Ri q) _ rfl rfl (Nat.le_of_ble_eq_true rfl) (t_X1_untilAtLeast l H)
theorem lk_122 : Cond.methodLink RX2 3 Lib.objectInit ∈ x_TB := x_tb (k := 122) (by decide +kernel) rfl
abbrev m_X2_init : XU := (yX2_init, cX2_init, 1, none)
theorem cn_X2_init : m_X2_init.1.cls ≠ "java/lang/invoke/MethodHandle" ∧ m_X2_init.1.cls ≠ "java/lang/invoke/VarHandle" ∧ (parseMethodDescriptor m_X2_init.1.desc).map (fun q => q.parameters.length) = some 0 := by decide +kernel
def f_X2_init (v0 : Nat) (M : XM) : Option XM :=
  if x_tag M v0 = 2 + 10 then (some M) else none
set_option maxRecDepth 20000 in
set_option maxHeartbeats 4000000 in
theorem t_X2_init (l : Launch) {v0 : Nat} {M : XM} {q : XM} (H : f_X2_init v0 M = some q) : AW l m_X2_init 1 0 0 (x_Rv q) 0 0 0 [some (.ref v0)] [] M := by
  unfold f_X2_init at H
  refine x_aload_n 0 0 dX2_init_0 rfl rfl ?_
  obtain ⟨h1, H⟩ := x_ckp H
  refine x_objInit 1 3 dX2_init_1 lk_122 lk_108 lk_109 h1 rfl (Nat.le_of_ble_eq_true rfl) (by decide) ?_
  cases H
  exact x_vret 4 dX2_init_4 rfl (Nat.le_of_ble_eq_true rfl) (Nat.le_of_ble_eq_true rfl) ⟨rfl, rfl⟩

theorem ct_X2_init (l : Launch) {v0 : Nat} {M : XM} {q : XM} (H : f_X2_init v0 M = some q) : Ct l m_X2_init 1 0 0 [(.ref v0)] M (x_Rv q) := x_met l m_X2_init 1 0 0 [(.ref v0)] M (x_Rv q) _ rfl rfl (Nat.le_of_ble_eq_true rfl) (t_X2_init l H)
theorem lk_131 : Cond.fieldLink RX2 21 RX2 "at" "I" ∈ x_TB := x_tb (k := 131) (by decide +kernel) rfl
theorem lk_136 : Cond.fieldLink RX2 24 RX2 "off" "I" ∈ x_TB := x_tb (k := 136) (by decide +kernel) rfl
theorem lk_139 : Cond.fieldLink RX2 27 RX2 "heard" "I" ∈ x_TB := x_tb (k := 139) (by decide +kernel) rfl
abbrev m_X2_beginAgain : XU := (yX2_beginAgain, cX2_beginAgain, 1, none)
theorem cn_X2_beginAgain : m_X2_beginAgain.1.cls ≠ "java/lang/invoke/MethodHandle" ∧ m_X2_beginAgain.1.cls ≠ "java/lang/invoke/VarHandle" ∧ (parseMethodDescriptor m_X2_beginAgain.1.desc).map (fun q => q.parameters.length) = some 0 := by decide +kernel
def f_X2_beginAgain (v0 : Nat) (M : XM) : Option XM :=
  if x_tag M v0 = 2 + 10 then (x_lt (x_wi M v0 2 (0 : Int32)) (fun M2 => x_lt (x_wi M2 v0 3 (0 : Int32)) (fun M5 => x_lt (x_wi M5 v0 4 (0 : Int32)) (fun M8 => some M8)))) else none
set_option maxRecDepth 20000 in
set_option maxHeartbeats 4000000 in
theorem t_X2_beginAgain (l : Launch) {v0 : Nat} {M : XM} {q : XM} (H : f_X2_beginAgain v0 M = some q) : AW l m_X2_beginAgain 1 0 0 (x_Rv q) 0 0 0 [some (.ref v0)] [] M := by
  unfold f_X2_beginAgain at H
  refine x_aload_n 0 0 dX2_beginAgain_0 rfl rfl ?_
  refine x_iconst 1 (0 : Int32) dX2_beginAgain_1 (by decide) ?_
  obtain ⟨h1, H⟩ := x_ckp H
  obtain ⟨M2, w3, H⟩ := x_lt_of H
  have h4 : x_tag M2 v0 = 2 + 10 := by rw [w3]; exact h1
  refine x_putI' 2 21 2 2 dX2_beginAgain_2 lk_131 (by decide) (by decide) rfl (Or.inl rfl) (Or.inl rfl) h1 w3 ?_
  refine x_aload_n 5 0 dX2_beginAgain_5 rfl rfl ?_
  refine x_iconst 6 (0 : Int32) dX2_beginAgain_6 (by decide) ?_
  obtain ⟨M5, w6, H⟩ := x_lt_of H
  have h7 : x_tag M5 v0 = 2 + 10 := by rw [w6]; exact h4
  refine x_putI' 7 24 2 3 dX2_beginAgain_7 lk_136 (by decide) (by decide) rfl (Or.inl rfl) (Or.inl rfl) h4 w6 ?_
  refine x_aload_n 10 0 dX2_beginAgain_10 rfl rfl ?_
  refine x_iconst 11 (0 : Int32) dX2_beginAgain_11 (by decide) ?_
  obtain ⟨M8, w9, H⟩ := x_lt_of H
  have h10 : x_tag M8 v0 = 2 + 10 := by rw [w9]; exact h7
  refine x_putI' 12 27 2 4 dX2_beginAgain_12 lk_139 (by decide) (by decide) rfl (Or.inl rfl) (Or.inl rfl) h7 w9 ?_
  cases H
  exact x_vret 15 dX2_beginAgain_15 rfl (Nat.le_of_ble_eq_true rfl) (Nat.le_of_ble_eq_true rfl) ⟨rfl, rfl⟩

theorem ct_X2_beginAgain (l : Launch) {v0 : Nat} {M : XM} {q : XM} (H : f_X2_beginAgain v0 M = some q) : Ct l m_X2_beginAgain 1 0 0 [(.ref v0)] M (x_Rv q) := x_met l m_X2_beginAgain 1 0 0 [(.ref v0)] M (x_Rv q) _ rfl rfl (Nat.le_of_ble_eq_true rfl) (t_X2_beginAgain l H)
theorem lk_533 : Cond.code yX2_beginAgain cX2_beginAgain 1 none ∈ x_TB := x_tb (k := 533) (by decide +kernel) rfl
theorem lk_530 : Cond.methodLink RX2 18 yX2_beginAgain ∈ x_TB := x_tb (k := 530) (by decide +kernel) rfl
theorem lk_532 : Cond.selects RX2 yX2_beginAgain yX2_beginAgain ∈ x_TB := x_tb (k := 532) (by decide +kernel) rfl
theorem lk_531 : Cond.instanceMethod yX2_beginAgain ∈ x_TB := x_tb (k := 531) (by decide +kernel) rfl
abbrev m_X2_becomeNew : XU := (yX2_becomeNew, cX2_becomeNew, 3, none)
theorem cn_X2_becomeNew : m_X2_becomeNew.1.cls ≠ "java/lang/invoke/MethodHandle" ∧ m_X2_becomeNew.1.cls ≠ "java/lang/invoke/VarHandle" ∧ (parseMethodDescriptor m_X2_becomeNew.1.desc).map (fun q => q.parameters.length) = some 2 := by decide +kernel
def f_X2_becomeNew (v0 : Nat) (v1 : Int32) (v2 : Int32) (M : XM) : Option XM :=
  if x_tag M v0 = 2 + 10 then (x_lt (x_wi M v0 0 v1) (fun M2 => x_lt (x_wi M2 v0 1 v2) (fun M5 => x_bv (f_X2_beginAgain v0 M5) (fun M8 => some M8)))) else none
set_option maxRecDepth 20000 in
set_option maxHeartbeats 4000000 in
theorem t_X2_becomeNew (l : Launch) {v0 : Nat} {v1 : Int32} {v2 : Int32} {M : XM} {q : XM} (H : f_X2_becomeNew v0 v1 v2 M = some q) : AW l m_X2_becomeNew 2 0 0 (x_Rv q) 0 0 0 [some (.ref v0), some (.int v1), some (.int v2)] [] M := by
  unfold f_X2_becomeNew at H
  refine x_aload_n 0 0 dX2_becomeNew_0 rfl rfl ?_
  refine x_iload_n 1 1 dX2_becomeNew_1 rfl rfl ?_
  obtain ⟨h1, H⟩ := x_ckp H
  obtain ⟨M2, w3, H⟩ := x_lt_of H
  have h4 : x_tag M2 v0 = 2 + 10 := by rw [w3]; exact h1
  refine x_putI' 2 9 2 0 dX2_becomeNew_2 lk_123 (by decide) (by decide) rfl (Or.inl rfl) (Or.inl rfl) h1 w3 ?_
  refine x_aload_n 5 0 dX2_becomeNew_5 rfl rfl ?_
  refine x_iload_n 6 2 dX2_becomeNew_6 rfl rfl ?_
  obtain ⟨M5, w6, H⟩ := x_lt_of H
  have h7 : x_tag M5 v0 = 2 + 10 := by rw [w6]; exact h4
  refine x_putI' 7 15 2 1 dX2_becomeNew_7 lk_126 (by decide) (by decide) rfl (Or.inl rfl) (Or.inl rfl) h4 w6 ?_
  refine x_aload_n 10 0 dX2_becomeNew_10 rfl rfl ?_
  obtain ⟨M8, e10, H⟩ := x_bv_of H
  refine x_callV 11 18 2 [] [] dX2_becomeNew_11 (ct_X2_beginAgain l e10) lk_530 lk_531 lk_532 (by decide) h7 lk_87 lk_533 ⟨cn_X2_beginAgain, (by decide), by decide⟩ rfl (Nat.le_of_ble_eq_true rfl) (Nat.le_of_ble_eq_true rfl) (Nat.le_of_ble_eq_true rfl) (x_rv ?_)
  cases H
  exact x_vret 14 dX2_becomeNew_14 rfl (Nat.le_of_ble_eq_true rfl) (Nat.le_of_ble_eq_true rfl) ⟨rfl, rfl⟩

theorem ct_X2_becomeNew (l : Launch) {v0 : Nat} {v1 : Int32} {v2 : Int32} {M : XM} {q : XM} (H : f_X2_becomeNew v0 v1 v2 M = some q) : Ct l m_X2_becomeNew 2 0 0 [(.ref v0), (.int v1), (.int v2)] M (x_Rv q) := x_met l m_X2_becomeNew 2 0 0 [(.ref v0), (.int v1), (.int v2)] M (x_Rv q) _ rfl rfl (Nat.le_of_ble_eq_true rfl) (t_X2_becomeNew l H)
abbrev m_X2_becomeLike : XU := (yX2_becomeLike, cX2_becomeLike, 2, none)
theorem cn_X2_becomeLike : m_X2_becomeLike.1.cls ≠ "java/lang/invoke/MethodHandle" ∧ m_X2_becomeLike.1.cls ≠ "java/lang/invoke/VarHandle" ∧ (parseMethodDescriptor m_X2_becomeLike.1.desc).map (fun q => q.parameters.length) = some 1 := by decide +kernel
def f_X2_becomeLike (v0 : Nat) (v1 : Nat) (M : XM) : Option XM :=
  if x_tag M v1 = 2 + 10 then (if x_tag M v0 = 2 + 10 then (x_lt (x_wi M v0 0 (x_i M v1 0)) (fun M3 => x_lt (x_wi M3 v0 1 (x_i M3 v1 1)) (fun M7 => x_lt (x_wi M7 v0 2 (x_i M7 v1 2)) (fun M11 => x_lt (x_wi M11 v0 3 (x_i M11 v1 3)) (fun M15 => x_lt (x_wi M15 v0 4 (x_i M15 v1 4)) (fun M19 => some M19)))))) else none) else none
set_option maxRecDepth 20000 in
set_option maxHeartbeats 4000000 in
theorem t_X2_becomeLike (l : Launch) {v0 : Nat} {v1 : Nat} {M : XM} {q : XM} (H : f_X2_becomeLike v0 v1 M = some q) : AW l m_X2_becomeLike 1 0 0 (x_Rv q) 0 0 0 [some (.ref v0), some (.ref v1)] [] M := by
  unfold f_X2_becomeLike at H
  refine x_aload_n 0 0 dX2_becomeLike_0 rfl rfl ?_
  refine x_aload_n 1 1 dX2_becomeLike_1 rfl rfl ?_
  obtain ⟨h1, H⟩ := x_ckp H
  refine x_getf 2 9 2 0 (.int (x_i M v1 0)) dX2_becomeLike_2 lk_123 (by decide) (by decide) rfl (fun _ => rfl) h1 ?_
  obtain ⟨h2, H⟩ := x_ckp H
  obtain ⟨M3, w4, H⟩ := x_lt_of H
  have h5 : x_tag M3 v1 = 2 + 10 := by rw [w4]; exact h1
  have h6 : x_tag M3 v0 = 2 + 10 := by rw [w4]; exact h2
  refine x_putI' 5 9 2 0 dX2_becomeLike_5 lk_123 (by decide) (by decide) rfl (Or.inl rfl) (Or.inl rfl) h2 w4 ?_
  refine x_aload_n 8 0 dX2_becomeLike_8 rfl rfl ?_
  refine x_aload_n 9 1 dX2_becomeLike_9 rfl rfl ?_
  refine x_getf 10 15 2 1 (.int (x_i M3 v1 1)) dX2_becomeLike_10 lk_126 (by decide) (by decide) rfl (fun _ => rfl) h5 ?_
  obtain ⟨M7, w8, H⟩ := x_lt_of H
  have h9 : x_tag M7 v1 = 2 + 10 := by rw [w8]; exact h5
  have h10 : x_tag M7 v0 = 2 + 10 := by rw [w8]; exact h6
  refine x_putI' 13 15 2 1 dX2_becomeLike_13 lk_126 (by decide) (by decide) rfl (Or.inl rfl) (Or.inl rfl) h6 w8 ?_
  refine x_aload_n 16 0 dX2_becomeLike_16 rfl rfl ?_
  refine x_aload_n 17 1 dX2_becomeLike_17 rfl rfl ?_
  refine x_getf 18 21 2 2 (.int (x_i M7 v1 2)) dX2_becomeLike_18 lk_131 (by decide) (by decide) rfl (fun _ => rfl) h9 ?_
  obtain ⟨M11, w12, H⟩ := x_lt_of H
  have h13 : x_tag M11 v1 = 2 + 10 := by rw [w12]; exact h9
  have h14 : x_tag M11 v0 = 2 + 10 := by rw [w12]; exact h10
  refine x_putI' 21 21 2 2 dX2_becomeLike_21 lk_131 (by decide) (by decide) rfl (Or.inl rfl) (Or.inl rfl) h10 w12 ?_
  refine x_aload_n 24 0 dX2_becomeLike_24 rfl rfl ?_
  refine x_aload_n 25 1 dX2_becomeLike_25 rfl rfl ?_
  refine x_getf 26 24 2 3 (.int (x_i M11 v1 3)) dX2_becomeLike_26 lk_136 (by decide) (by decide) rfl (fun _ => rfl) h13 ?_
  obtain ⟨M15, w16, H⟩ := x_lt_of H
  have h17 : x_tag M15 v1 = 2 + 10 := by rw [w16]; exact h13
  have h18 : x_tag M15 v0 = 2 + 10 := by rw [w16]; exact h14
  refine x_putI' 29 24 2 3 dX2_becomeLike_29 lk_136 (by decide) (by decide) rfl (Or.inl rfl) (Or.inl rfl) h14 w16 ?_
  refine x_aload_n 32 0 dX2_becomeLike_32 rfl rfl ?_
  refine x_aload_n 33 1 dX2_becomeLike_33 rfl rfl ?_
  refine x_getf 34 27 2 4 (.int (x_i M15 v1 4)) dX2_becomeLike_34 lk_139 (by decide) (by decide) rfl (fun _ => rfl) h17 ?_
  obtain ⟨M19, w20, H⟩ := x_lt_of H
  have h21 : x_tag M19 v1 = 2 + 10 := by rw [w20]; exact h17
  have h22 : x_tag M19 v0 = 2 + 10 := by rw [w20]; exact h18
  refine x_putI' 37 27 2 4 dX2_becomeLike_37 lk_139 (by decide) (by decide) rfl (Or.inl rfl) (Or.inl rfl) h18 w20 ?_
  cases H
  exact x_vret 40 dX2_becomeLike_40 rfl (Nat.le_of_ble_eq_true rfl) (Nat.le_of_ble_eq_true rfl) ⟨rfl, rfl⟩

theorem ct_X2_becomeLike (l : Launch) {v0 : Nat} {v1 : Nat} {M : XM} {q : XM} (H : f_X2_becomeLike v0 v1 M = some q) : Ct l m_X2_becomeLike 1 0 0 [(.ref v0), (.ref v1)] M (x_Rv q) := x_met l m_X2_becomeLike 1 0 0 [(.ref v0), (.ref v1)] M (x_Rv q) _ rfl rfl (Nat.le_of_ble_eq_true rfl) (t_X2_becomeLike l H)
theorem lk_707 : Cond.methodLink RX2 34 yX2_leftAt ∈ x_TB := x_tb (k := 707) (by decide +kernel) rfl
abbrev m_X2_hear : XU := (yX2_hear, cX2_hear, 2, none)
theorem cn_X2_hear : m_X2_hear.1.cls ≠ "java/lang/invoke/MethodHandle" ∧ m_X2_hear.1.cls ≠ "java/lang/invoke/VarHandle" ∧ (parseMethodDescriptor m_X2_hear.1.desc).map (fun q => q.parameters.length) = some 1 := by decide +kernel
def f_X2_hear_50 (v0 : Nat) (M : XM) : Option XM :=
  if x_tag M v0 = 2 + 10 then (if (x_i M v0 0) = (3 : Int32) then (x_lt (x_wi M v0 3 ((x_i M v0 3) + (1 : Int32))) (fun M18 => some M18)) else (some M)) else none
set_option maxRecDepth 20000 in
set_option maxHeartbeats 4000000 in
theorem t_X2_hear_50 (l : Launch) {v0 : Nat} {M : XM} {q : XM} (H : f_X2_hear_50 v0 M = some q) : AW l m_X2_hear 2 0 0 (x_Rv q) 0 0 50 [some (.ref v0), none] [] M := by
  unfold f_X2_hear_50 at H
  refine x_aload_n 50 0 dX2_hear_50 rfl rfl ?_
  obtain ⟨h16, H⟩ := x_ckp H
  refine x_getf 51 9 2 0 (.int (x_i M v0 0)) dX2_hear_51 lk_123 (by decide) (by decide) rfl (fun _ => rfl) h16 ?_
  refine x_iconst 54 (3 : Int32) dX2_hear_54 (by decide) ?_
  refine x_icmp_ne 55 68 dX2_hear_55 (by decide) (fun c17 => ?_) (fun c17 => ?_)
  · replace H := x_ifn c17 H
    cases H
    exact x_vret 68 dX2_hear_68 rfl (Nat.le_of_ble_eq_true rfl) (Nat.le_of_ble_eq_true rfl) ⟨rfl, rfl⟩
  · replace H := x_ifp c17 H
    refine x_aload_n 58 0 dX2_hear_58 rfl rfl ?_
    refine x_dup 59 dX2_hear_59 rfl ?_
    refine x_getf 60 24 2 3 (.int (x_i M v0 3)) dX2_hear_60 lk_136 (by decide) (by decide) rfl (fun _ => rfl) h16 ?_
    refine x_iconst 63 (1 : Int32) dX2_hear_63 (by decide) ?_
    refine x_iadd 64 dX2_hear_64 ?_
    obtain ⟨M18, w19, H⟩ := x_lt_of H
    have h20 : x_tag M18 v0 = 2 + 10 := by rw [w19]; exact h16
    refine x_putI' 65 24 2 3 dX2_hear_65 lk_136 (by decide) (by decide) rfl (Or.inl rfl) (Or.inl rfl) h16 w19 ?_
    cases H
    exact x_vret 68 dX2_hear_68 rfl (Nat.le_of_ble_eq_true rfl) (Nat.le_of_ble_eq_true rfl) ⟨rfl, rfl⟩

def f_X2_hear (v0 : Nat) (v1 : Int32) (M : XM) : Option XM :=
  if x_tag M v0 = 2 + 10 then (x_lt (x_wi M v0 4 ((x_i M v0 4) + (1 : Int32))) (fun M2 => x_bd (f_X2_leftAt v0 (x_i M2 v0 2) (x_i M2 v0 4) v1 M2) (fun r6 M5 => if x_tag M5 v0 = 2 + 10 then (x_lt (x_wi M5 v0 2 r6) (fun M9 => if (x_i M9 v0 0) = (2 : Int32) then (x_lt (x_wi M9 v0 3 ((x_i M9 v0 3) + ((x_i M9 v0 1) + (1 : Int32)))) (fun M13 => f_X2_hear_50 v0 M13)) else (f_X2_hear_50 v0 M9))) else none))) else none
set_option maxRecDepth 20000 in
set_option maxHeartbeats 4000000 in
theorem t_X2_hear (l : Launch) {v0 : Nat} {v1 : Int32} {M : XM} {q : XM} (H : f_X2_hear v0 v1 M = some q) : AW l m_X2_hear 2 0 0 (x_Rv q) 0 0 0 [some (.ref v0), some (.int v1)] [] M := by
  unfold f_X2_hear at H
  refine x_aload_n 0 0 dX2_hear_0 rfl rfl ?_
  refine x_dup 1 dX2_hear_1 rfl ?_
  obtain ⟨h1, H⟩ := x_ckp H
  refine x_getf 2 27 2 4 (.int (x_i M v0 4)) dX2_hear_2 lk_139 (by decide) (by decide) rfl (fun _ => rfl) h1 ?_
  refine x_iconst 5 (1 : Int32) dX2_hear_5 (by decide) ?_
  refine x_iadd 6 dX2_hear_6 ?_
  obtain ⟨M2, w3, H⟩ := x_lt_of H
  have h4 : x_tag M2 v0 = 2 + 10 := by rw [w3]; exact h1
  refine x_putI' 7 27 2 4 dX2_hear_7 lk_139 (by decide) (by decide) rfl (Or.inl rfl) (Or.inl rfl) h1 w3 ?_
  refine x_aload_n 10 0 dX2_hear_10 rfl rfl ?_
  refine x_aload_n 11 0 dX2_hear_11 rfl rfl ?_
  refine x_aload_n 12 0 dX2_hear_12 rfl rfl ?_
  refine x_getf 13 21 2 2 (.int (x_i M2 v0 2)) dX2_hear_13 lk_131 (by decide) (by decide) rfl (fun _ => rfl) h4 ?_
  refine x_aload_n 16 0 dX2_hear_16 rfl rfl ?_
  refine x_getf 17 27 2 4 (.int (x_i M2 v0 4)) dX2_hear_17 lk_139 (by decide) (by decide) rfl (fun _ => rfl) h4 ?_
  refine x_iload_n 20 1 dX2_hear_20 rfl rfl ?_
  obtain ⟨r6, M5, e7, H⟩ := x_bd_of H
  refine x_callV 21 34 2 [(.int (x_i M2 v0 2)), (.int (x_i M2 v0 4)), (.int v1)] [(.ref v0)] dX2_hear_21 (ct_X2_leftAt l e7) lk_707 lk_708 lk_709 (by decide) h4 lk_87 lk_710 ⟨cn_X2_leftAt, (by decide), by decide⟩ rfl (Nat.le_of_ble_eq_true rfl) (Nat.le_of_ble_eq_true rfl) (Nat.le_of_ble_eq_true rfl) (x_ri ?_)
  obtain ⟨h8, H⟩ := x_ckp H
  obtain ⟨M9, w10, H⟩ := x_lt_of H
  have h11 : x_tag M9 v0 = 2 + 10 := by rw [w10]; exact h8
  refine x_putI' 24 21 2 2 dX2_hear_24 lk_131 (by decide) (by decide) rfl (Or.inl rfl) (Or.inl rfl) h8 w10 ?_
  refine x_aload_n 27 0 dX2_hear_27 rfl rfl ?_
  refine x_getf 28 9 2 0 (.int (x_i M9 v0 0)) dX2_hear_28 lk_123 (by decide) (by decide) rfl (fun _ => rfl) h11 ?_
  refine x_iconst 31 (2 : Int32) dX2_hear_31 (by decide) ?_
  refine x_icmp_ne 32 50 dX2_hear_32 (by decide) (fun c12 => ?_) (fun c12 => ?_)
  · replace H := x_ifn c12 H
    exact x_wk (le_s (le_n le_0)) (t_X2_hear_50 l H)
  · replace H := x_ifp c12 H
    refine x_aload_n 35 0 dX2_hear_35 rfl rfl ?_
    refine x_dup 36 dX2_hear_36 rfl ?_
    refine x_getf 37 24 2 3 (.int (x_i M9 v0 3)) dX2_hear_37 lk_136 (by decide) (by decide) rfl (fun _ => rfl) h11 ?_
    refine x_aload_n 40 0 dX2_hear_40 rfl rfl ?_
    refine x_getf 41 15 2 1 (.int (x_i M9 v0 1)) dX2_hear_41 lk_126 (by decide) (by decide) rfl (fun _ => rfl) h11 ?_
    refine x_iconst 44 (1 : Int32) dX2_hear_44 (by decide) ?_
    refine x_iadd 45 dX2_hear_45 ?_
    refine x_iadd 46 dX2_hear_46 ?_
    obtain ⟨M13, w14, H⟩ := x_lt_of H
    have h15 : x_tag M13 v0 = 2 + 10 := by rw [w14]; exact h11
    refine x_putI' 47 24 2 3 dX2_hear_47 lk_136 (by decide) (by decide) rfl (Or.inl rfl) (Or.inl rfl) h11 w14 ?_
    exact x_wk (le_s (le_n le_0)) (t_X2_hear_50 l H)

theorem ct_X2_hear (l : Launch) {v0 : Nat} {v1 : Int32} {M : XM} {q : XM} (H : f_X2_hear v0 v1 M = some q) : Ct l m_X2_hear 2 0 0 [(.ref v0), (.int v1)] M (x_Rv q) := x_met l m_X2_hear 2 0 0 [(.ref v0), (.int v1)] M (x_Rv q) _ rfl rfl (Nat.le_of_ble_eq_true rfl) (t_X2_hear l H)
abbrev m_X2_saysAs : XU := (yX2_saysAs, cX2_saysAs, 3, (some .int))
theorem cn_X2_saysAs : m_X2_saysAs.1.cls ≠ "java/lang/invoke/MethodHandle" ∧ m_X2_saysAs.1.cls ≠ "java/lang/invoke/VarHandle" ∧ (parseMethodDescriptor m_X2_saysAs.1.desc).map (fun q => q.parameters.length) = some 2 := by decide +kernel
def f_X2_saysAs_40 (v0 : Nat) (v2 : Int32) (M : XM) : Option (Int32 × XM) :=
  if x_tag M v0 = 2 + 10 then (x_bd (f_X8_leftOver (x_i M v0 2) v2 M) (fun r4 M3 => some (((x_i M v0 2) - r4), M3))) else none
set_option maxRecDepth 20000 in
set_option maxHeartbeats 4000000 in
theorem t_X2_saysAs_40 (l : Launch) {v0 : Nat} {v2 : Int32} {M : XM} {q : Int32 × XM} (H : f_X2_saysAs_40 v0 v2 M = some q) : AW l m_X2_saysAs 2 0 0 (x_Ri q) 0 0 40 [some (.ref v0), none, some (.int v2)] [] M := by
  unfold f_X2_saysAs_40 at H
  refine x_aload_n 40 0 dX2_saysAs_40 rfl rfl ?_
  obtain ⟨h2, H⟩ := x_ckp H
  refine x_getf 41 21 2 2 (.int (x_i M v0 2)) dX2_saysAs_41 lk_131 (by decide) (by decide) rfl (fun _ => rfl) h2 ?_
  refine x_aload_n 44 0 dX2_saysAs_44 rfl rfl ?_
  refine x_getf 45 21 2 2 (.int (x_i M v0 2)) dX2_saysAs_45 lk_131 (by decide) (by decide) rfl (fun _ => rfl) h2 ?_
  refine x_iload_n 48 2 dX2_saysAs_48 rfl rfl ?_
  obtain ⟨r4, M3, e5, H⟩ := x_bd_of H
  refine x_callSN 49 38 [(.int (x_i M v0 2)), (.int v2)] [(.int (x_i M v0 2))] dX2_saysAs_49 (ct_X8_leftOver l e5) (List.mem_of_getElem? (i := 8) rfl) lk_512 lk_85 lk_513 ⟨cn_X8_leftOver, (by decide), by decide⟩ rfl (Nat.le_of_ble_eq_true rfl) (Nat.le_of_ble_eq_true rfl) (Nat.le_of_ble_eq_true rfl) (x_ri ?_)
  refine x_isub 52 dX2_saysAs_52 ?_
  cases H
  exact x_iret 53 dX2_saysAs_53 .int rfl rfl (Nat.le_of_ble_eq_true rfl) (Nat.le_of_ble_eq_true rfl) ⟨rfl, rfl⟩

def f_X2_saysAs_54 (v0 : Nat) (M : XM) : Option (Int32 × XM) :=
  if x_tag M v0 = 2 + 10 then (some (((x_i M v0 2) + (x_i M v0 3)), M)) else none
set_option maxRecDepth 20000 in
set_option maxHeartbeats 4000000 in
theorem t_X2_saysAs_54 (l : Launch) {v0 : Nat} {M : XM} {q : Int32 × XM} (H : f_X2_saysAs_54 v0 M = some q) : AW l m_X2_saysAs 2 0 0 (x_Ri q) 0 0 54 [some (.ref v0), none, none] [] M := by
  unfold f_X2_saysAs_54 at H
  refine x_aload_n 54 0 dX2_saysAs_54 rfl rfl ?_
  obtain ⟨h7, H⟩ := x_ckp H
  refine x_getf 55 21 2 2 (.int (x_i M v0 2)) dX2_saysAs_55 lk_131 (by decide) (by decide) rfl (fun _ => rfl) h7 ?_
  refine x_aload_n 58 0 dX2_saysAs_58 rfl rfl ?_
  refine x_getf 59 24 2 3 (.int (x_i M v0 3)) dX2_saysAs_59 lk_136 (by decide) (by decide) rfl (fun _ => rfl) h7 ?_
  refine x_iadd 62 dX2_saysAs_62 ?_
  cases H
  exact x_iret 63 dX2_saysAs_63 .int rfl rfl (Nat.le_of_ble_eq_true rfl) (Nat.le_of_ble_eq_true rfl) ⟨rfl, rfl⟩

def f_X2_saysAs (v0 : Nat) (v1 : Int32) (v2 : Int32) (M : XM) : Option (Int32 × XM) :=
  if v1 = (1 : Int32) then (f_X2_saysAs_40 v0 v2 M) else if v1 = (2 : Int32) then (f_X2_saysAs_54 v0 M) else if v1 = (3 : Int32) then (f_X2_saysAs_54 v0 M) else if v1 = (4 : Int32) then (if x_tag M v0 = 2 + 10 then (some ((x_i M v0 4), M)) else none) else if v1 = (5 : Int32) then (f_X2_saysAs_40 v0 v2 M) else if v1 = (6 : Int32) then (if x_tag M v0 = 2 + 10 then (some (((x_i M v0 2) / (2 : Int32)), M)) else none) else if x_tag M v0 = 2 + 10 then (some ((x_i M v0 2), M)) else none
set_option maxRecDepth 20000 in
set_option maxHeartbeats 4000000 in
theorem t_X2_saysAs (l : Launch) {v0 : Nat} {v1 : Int32} {v2 : Int32} {M : XM} {q : Int32 × XM} (H : f_X2_saysAs v0 v1 v2 M = some q) : AW l m_X2_saysAs 2 0 0 (x_Ri q) 0 0 0 [some (.ref v0), some (.int v1), some (.int v2)] [] M := by
  unfold f_X2_saysAs at H
  refine x_iload_n 0 1 dX2_saysAs_0 rfl rfl ?_
  by_cases c1 : v1 = (1 : Int32)
  · replace H := x_ifp c1 H
    refine x_tableIn (off := 39) 1 40 dX2_saysAs_1 (by rw [c1]; decide) (by rw [c1]; decide) (by rw [c1]; rfl) (by decide) ?_
    exact x_wk (le_s (le_n (le_s le_0))) (t_X2_saysAs_40 l H)
  · replace H := x_ifn c1 H
    by_cases c6 : v1 = (2 : Int32)
    · replace H := x_ifp c6 H
      refine x_tableIn (off := 53) 1 54 dX2_saysAs_1 (by rw [c6]; decide) (by rw [c6]; decide) (by rw [c6]; rfl) (by decide) ?_
      exact x_wk (le_s (le_n (le_n le_0))) (t_X2_saysAs_54 l H)
    · replace H := x_ifn c6 H
      by_cases c8 : v1 = (3 : Int32)
      · replace H := x_ifp c8 H
        refine x_tableIn (off := 53) 1 54 dX2_saysAs_1 (by rw [c8]; decide) (by rw [c8]; decide) (by rw [c8]; rfl) (by decide) ?_
        exact x_wk (le_s (le_n (le_n le_0))) (t_X2_saysAs_54 l H)
      · replace H := x_ifn c8 H
        by_cases c9 : v1 = (4 : Int32)
        · replace H := x_ifp c9 H
          refine x_tableIn (off := 63) 1 64 dX2_saysAs_1 (by rw [c9]; decide) (by rw [c9]; decide) (by rw [c9]; rfl) (by decide) ?_
          refine x_aload_n 64 0 dX2_saysAs_64 rfl rfl ?_
          obtain ⟨h10, H⟩ := x_ckp H
          refine x_getf 65 27 2 4 (.int (x_i M v0 4)) dX2_saysAs_65 lk_139 (by decide) (by decide) rfl (fun _ => rfl) h10 ?_
          cases H
          exact x_iret 68 dX2_saysAs_68 .int rfl rfl (Nat.le_of_ble_eq_true rfl) (Nat.le_of_ble_eq_true rfl) ⟨rfl, rfl⟩
        · replace H := x_ifn c9 H
          by_cases c11 : v1 = (5 : Int32)
          · replace H := x_ifp c11 H
            refine x_tableIn (off := 39) 1 40 dX2_saysAs_1 (by rw [c11]; decide) (by rw [c11]; decide) (by rw [c11]; rfl) (by decide) ?_
            exact x_wk (le_s (le_n (le_s le_0))) (t_X2_saysAs_40 l H)
          · replace H := x_ifn c11 H
            by_cases c12 : v1 = (6 : Int32)
            · replace H := x_ifp c12 H
              refine x_tableIn (off := 68) 1 69 dX2_saysAs_1 (by rw [c12]; decide) (by rw [c12]; decide) (by rw [c12]; rfl) (by decide) ?_
              refine x_aload_n 69 0 dX2_saysAs_69 rfl rfl ?_
              obtain ⟨h13, H⟩ := x_ckp H
              refine x_getf 70 21 2 2 (.int (x_i M v0 2)) dX2_saysAs_70 lk_131 (by decide) (by decide) rfl (fun _ => rfl) h13 ?_
              refine x_iconst 73 (2 : Int32) dX2_saysAs_73 (by decide) ?_
              refine x_idiv 74 dX2_saysAs_74 (by decide) ?_
              cases H
              exact x_iret 75 dX2_saysAs_75 .int rfl rfl (Nat.le_of_ble_eq_true rfl) (Nat.le_of_ble_eq_true rfl) ⟨rfl, rfl⟩
            · replace H := x_ifn c12 H
              refine x_tableOut 1 76 dX2_saysAs_1 (by have n0 := lv_neT (a := 1) c1 (by decide); have n1 := lv_neT (a := 2) c6 (by decide); have n2 := lv_neT (a := 3) c8 (by decide); have n3 := lv_neT (a := 4) c9 (by decide); have n4 := lv_neT (a := 5) c11 (by decide); have n5 := lv_neT (a := 6) c12 (by decide); omega) (by decide) ?_
              refine x_aload_n 76 0 dX2_saysAs_76 rfl rfl ?_
              obtain ⟨h14, H⟩ := x_ckp H
              refine x_getf 77 21 2 2 (.int (x_i M v0 2)) dX2_saysAs_77 lk_131 (by decide) (by decide) rfl (fun _ => rfl) h14 ?_
              cases H
              exact x_iret 80 dX2_saysAs_80 .int rfl rfl (Nat.le_of_ble_eq_true rfl) (Nat.le_of_ble_eq_true rfl) ⟨rfl, rfl⟩

theorem ct_X2_saysAs (l : Launch) {v0 : Nat} {v1 : Int32} {v2 : Int32} {M : XM} {q : Int32 × XM} (H : f_X2_saysAs v0 v1 v2 M = some q) : Ct l m_X2_saysAs 2 0 0 [(.ref v0), (.int v1), (.int v2)] M (x_Ri q) := x_met l m_X2_saysAs 2 0 0 [(.ref v0), (.int v1), (.int v2)] M (x_Ri q) _ rfl rfl (Nat.le_of_ble_eq_true rfl) (t_X2_saysAs l H)
theorem lk_301 : Cond.methodLink RX3 3 Lib.objectInit ∈ x_TB := x_tb (k := 301) (by decide +kernel) rfl
theorem lk_302 : Cond.fieldLink RX3 9 RX3 "row" "[I" ∈ x_TB := x_tb (k := 302) (by decide +kernel) rfl
theorem lk_303 : Cond.fieldLink RX3 15 RX3 "next" "[I" ∈ x_TB := x_tb (k := 303) (by decide +kernel) rfl
abbrev m_X3_init : XU := (yX3_init, cX3_init, 1, none)
theorem cn_X3_init : m_X3_init.1.cls ≠ "java/lang/invoke/MethodHandle" ∧ m_X3_init.1.cls ≠ "java/lang/invoke/VarHandle" ∧ (parseMethodDescriptor m_X3_init.1.desc).map (fun q => q.parameters.length) = some 0 := by decide +kernel
def f_X3_init (v0 : Nat) (M : XM) : Option XM :=
  if x_tag M v0 = 3 + 10 then (x_al M 1 201 (fun a3 M2 => if x_tag M2 v0 = 3 + 10 then (x_lt (x_wr M2 v0 0 a3) (fun M8 => x_al M8 1 201 (fun a13 M12 => if x_tag M12 v0 = 3 + 10 then (x_lt (x_wr M12 v0 1 a13) (fun M18 => some M18)) else none))) else none)) else none
set_option maxRecDepth 20000 in
set_option maxHeartbeats 4000000 in
theorem t_X3_init (l : Launch) {v0 : Nat} {M : XM} {q : XM} (H : f_X3_init v0 M = some q) : AW l m_X3_init 1 2 402 (x_Rv q) 0 0 0 [some (.ref v0)] [] M := by
  unfold f_X3_init at H
  refine x_aload_n 0 0 dX3_init_0 rfl rfl ?_
  obtain ⟨h1, H⟩ := x_ckp H
  refine x_objInit 1 3 dX3_init_1 lk_301 lk_108 lk_109 h1 rfl (Nat.le_of_ble_eq_true rfl) (by decide) ?_
  refine x_aload_n 4 0 dX3_init_4 rfl rfl ?_
  refine x_sipush 5 (201 : Int32) dX3_init_5 (by decide) ?_
  obtain ⟨a3, M2, w4, w5, H⟩ := x_al_of H
  refine x_newI' 8 201 dX3_init_8 lk_153 (by decide) (by decide) (by decide) (Nat.le_of_ble_eq_true rfl) (Nat.le_of_ble_eq_true rfl) w4 w5 ?_
  have h6 : x_tag M2 a3 = 1 := x_al_tag w4 w5
  change AW _ _ _ _ _ _ 1 201 _ _ _ _
  obtain ⟨h7, H⟩ := x_ckp H
  obtain ⟨M8, w9, H⟩ := x_lt_of H
  have h10 : x_tag M8 a3 = 1 := by rw [w9]; exact h6
  have h11 : x_tag M8 v0 = 3 + 10 := by rw [w9]; exact h7
  refine x_putR' 10 9 3 0 dX3_init_10 lk_302 (by decide) (by decide) rfl (Or.inr ⟨_, rfl⟩) (Or.inl rfl) h7 w9 ?_
  refine x_aload_n 13 0 dX3_init_13 rfl rfl ?_
  refine x_sipush 14 (201 : Int32) dX3_init_14 (by decide) ?_
  obtain ⟨a13, M12, w14, w15, H⟩ := x_al_of H
  refine x_newI' 17 201 dX3_init_17 lk_153 (by decide) (by decide) (by decide) (Nat.le_of_ble_eq_true rfl) (Nat.le_of_ble_eq_true rfl) w14 w15 ?_
  have h16 : x_tag M12 a13 = 1 := x_al_tag w14 w15
  change AW _ _ _ _ _ _ 2 402 _ _ _ _
  obtain ⟨h17, H⟩ := x_ckp H
  obtain ⟨M18, w19, H⟩ := x_lt_of H
  have h20 : x_tag M18 a13 = 1 := by rw [w19]; exact h16
  have h21 : x_tag M18 v0 = 3 + 10 := by rw [w19]; exact h17
  refine x_putR' 19 15 3 1 dX3_init_19 lk_303 (by decide) (by decide) rfl (Or.inr ⟨_, rfl⟩) (Or.inl rfl) h17 w19 ?_
  cases H
  exact x_vret 22 dX3_init_22 rfl (Nat.le_of_ble_eq_true rfl) (Nat.le_of_ble_eq_true rfl) ⟨rfl, rfl⟩

theorem ct_X3_init (l : Launch) {v0 : Nat} {M : XM} {q : XM} (H : f_X3_init v0 M = some q) : Ct l m_X3_init 1 2 402 [(.ref v0)] M (x_Rv q) := x_met l m_X3_init 1 2 402 [(.ref v0)] M (x_Rv q) _ rfl rfl (Nat.le_of_ble_eq_true rfl) (t_X3_init l H)
theorem lk_155 : Cond.fieldLink RX3 18 RX4 "counters" "[LWhatDidYouSay$Counter;" ∈ x_TB := x_tb (k := 155) (by decide +kernel) rfl
theorem lk_130 : Cond.fieldLink RX3 49 RX2 "at" "I" ∈ x_TB := x_tb (k := 130) (by decide +kernel) rfl
theorem lk_164 : Cond.fieldLink RX3 24 RX4 "n" "I" ∈ x_TB := x_tb (k := 164) (by decide +kernel) rfl
abbrev m_X3_swap : XU := (yX3_swap, cX3_swap, 2, none)
theorem cn_X3_swap : m_X3_swap.1.cls ≠ "java/lang/invoke/MethodHandle" ∧ m_X3_swap.1.cls ≠ "java/lang/invoke/VarHandle" ∧ (parseMethodDescriptor m_X3_swap.1.desc).map (fun q => q.parameters.length) = some 0 := by decide +kernel
def f_X3_swap (v0 : Nat) (M : XM) : Option XM :=
  if x_tag M v0 = 3 + 10 then (x_lt (x_wr M v0 0 (x_r M v0 1)) (fun M2 => x_lt (x_wr M2 v0 1 (x_r M v0 0)) (fun M5 => some M5))) else none
set_option maxRecDepth 20000 in
set_option maxHeartbeats 4000000 in
theorem t_X3_swap (l : Launch) {v0 : Nat} {M : XM} {q : XM} (H : f_X3_swap v0 M = some q) : AW l m_X3_swap 1 0 0 (x_Rv q) 0 0 0 [some (.ref v0), none] [] M := by
  unfold f_X3_swap at H
  refine x_aload_n 0 0 dX3_swap_0 rfl rfl ?_
  obtain ⟨h1, H⟩ := x_ckp H
  refine x_getf 1 9 3 0 (.ref (x_r M v0 0)) dX3_swap_1 lk_302 (by decide) (by decide) rfl (fun _ => rfl) h1 ?_
  refine x_astore_n 4 1 [some (.ref v0), some (.ref (x_r M v0 0))] dX3_swap_4 rfl rfl (Nat.le_of_ble_eq_true rfl) rfl ?_
  refine x_aload_n 5 0 dX3_swap_5 rfl rfl ?_
  refine x_aload_n 6 0 dX3_swap_6 rfl rfl ?_
  refine x_getf 7 15 3 1 (.ref (x_r M v0 1)) dX3_swap_7 lk_303 (by decide) (by decide) rfl (fun _ => rfl) h1 ?_
  obtain ⟨M2, w3, H⟩ := x_lt_of H
  have h4 : x_tag M2 v0 = 3 + 10 := by rw [w3]; exact h1
  refine x_putR' 10 9 3 0 dX3_swap_10 lk_302 (by decide) (by decide) rfl (Or.inr ⟨_, rfl⟩) (Or.inl rfl) h1 w3 ?_
  refine x_aload_n 13 0 dX3_swap_13 rfl rfl ?_
  refine x_aload_n 14 1 dX3_swap_14 rfl rfl ?_
  obtain ⟨M5, w6, H⟩ := x_lt_of H
  have h7 : x_tag M5 v0 = 3 + 10 := by rw [w6]; exact h4
  refine x_putR' 15 15 3 1 dX3_swap_15 lk_303 (by decide) (by decide) rfl (Or.inr ⟨_, rfl⟩) (Or.inl rfl) h4 w6 ?_
  cases H
  exact x_vret 18 dX3_swap_18 rfl (Nat.le_of_ble_eq_true rfl) (Nat.le_of_ble_eq_true rfl) ⟨rfl, rfl⟩

theorem ct_X3_swap (l : Launch) {v0 : Nat} {M : XM} {q : XM} (H : f_X3_swap v0 M = some q) : Ct l m_X3_swap 1 0 0 [(.ref v0)] M (x_Rv q) := x_met l m_X3_swap 1 0 0 [(.ref v0)] M (x_Rv q) _ rfl rfl (Nat.le_of_ble_eq_true rfl) (t_X3_swap l H)
theorem lk_91 : Cond.initialized RX3 ∈ x_TB := x_tb (k := 91) (by decide +kernel) rfl
theorem lk_845 : Cond.code yX3_swap cX3_swap 2 none ∈ x_TB := x_tb (k := 845) (by decide +kernel) rfl
theorem lk_842 : Cond.methodLink RX3 46 yX3_swap ∈ x_TB := x_tb (k := 842) (by decide +kernel) rfl
theorem lk_24 : Cond.selects RX3 yX3_swap yX3_swap ∈ x_TB := x_tb (k := 24) (by decide +kernel) rfl
theorem lk_844 : Cond.instanceMethod yX3_swap ∈ x_TB := x_tb (k := 844) (by decide +kernel) rfl
theorem lk_138 : Cond.fieldLink RX3 28 RX2 "heard" "I" ∈ x_TB := x_tb (k := 138) (by decide +kernel) rfl
theorem lk_170 : Cond.fieldLink RX3 33 RX4 "apart" "I" ∈ x_TB := x_tb (k := 170) (by decide +kernel) rfl
theorem lk_840 : Cond.methodLink RX3 36 yX2_leftAt ∈ x_TB := x_tb (k := 840) (by decide +kernel) rfl
theorem lk_841 : Cond.methodLink RX3 40 Lib.Math.max.name ∈ x_TB := x_tb (k := 841) (by decide +kernel) rfl
theorem lk_657 : Cond.static Lib.Math.max.name ∈ x_TB := x_tb (k := 657) (by decide +kernel) rfl
theorem lk_658 : Cond.code Lib.Math.max.name Lib.Math.max.code 2 (some .int) ∈ x_TB := x_tb (k := 658) (by decide +kernel) rfl
abbrev m_X3_most : XU := (yX3_most, cX3_most, 8, (some .int))
theorem cn_X3_most : m_X3_most.1.cls ≠ "java/lang/invoke/MethodHandle" ∧ m_X3_most.1.cls ≠ "java/lang/invoke/VarHandle" ∧ (parseMethodDescriptor m_X3_most.1.desc).map (fun q => q.parameters.length) = some 3 := by decide +kernel
def f_X3_most_89 (κ11 : Nat → Nat → Int32 → Nat → Int32 → XM → Option (Int32 × XM)) (κ34 : Nat → Nat → Int32 → Nat → Int32 → Int32 → XM → Option (Int32 × XM)) (v0 : Nat) (v1 : Nat) (v3 : Int32) (v4 : Nat) (v5 : Int32) (v6 : Int32) (v7 : Int32) (M : XM) : Option (Int32 × XM) :=
  if x_tag M v0 = 3 + 10 then (if x_at M (x_r M v0 1) 1 v6 = true then (x_lt (x_wi M (x_r M v0 1) v6.toNatClampNeg (v7 + (1 : Int32))) (fun M26 => κ34 v0 v1 v3 v4 v5 (v6 + (-1 : Int32)) M26)) else none) else none
set_option maxRecDepth 20000 in
set_option maxHeartbeats 4000000 in
theorem t_X3_most_89 (l : Launch) {κ11 : Nat → Nat → Int32 → Nat → Int32 → XM → Option (Int32 × XM)} {κ34 : Nat → Nat → Int32 → Nat → Int32 → Int32 → XM → Option (Int32 × XM)} {v0 : Nat} {v1 : Nat} {v3 : Int32} {v4 : Nat} {v5 : Int32} {v6 : Int32} {v7 : Int32} {M : XM} {q : Int32 × XM} (hκ11 : ∀ (v0 : Nat) (v1 : Nat) (v3 : Int32) (v4 : Nat) (v5 : Int32) (M : XM), κ11 v0 v1 v3 v4 v5 M = some q → AW l m_X3_most 2 0 0 (x_Ri q) 0 0 11 [some (.ref v0), some (.ref v1), none, some (.int v3), some (.ref v4), some (.int v5), none, none] [] M) (hκ34 : ∀ (v0 : Nat) (v1 : Nat) (v3 : Int32) (v4 : Nat) (v5 : Int32) (v6 : Int32) (M : XM), κ34 v0 v1 v3 v4 v5 v6 M = some q → AW l m_X3_most 2 0 0 (x_Ri q) 0 0 34 [some (.ref v0), some (.ref v1), none, some (.int v3), some (.ref v4), some (.int v5), some (.int v6), none] [] M) (H : f_X3_most_89 κ11 κ34 v0 v1 v3 v4 v5 v6 v7 M = some q) : AW l m_X3_most 2 0 0 (x_Ri q) 0 0 89 [some (.ref v0), some (.ref v1), none, some (.int v3), some (.ref v4), some (.int v5), some (.int v6), some (.int v7)] [] M := by
  unfold f_X3_most_89 at H
  refine x_aload_n 89 0 dX3_most_89 rfl rfl ?_
  obtain ⟨h24, H⟩ := x_ckp H
  refine x_getf 90 15 3 1 (.ref (x_r M v0 1)) dX3_most_90 lk_303 (by decide) (by decide) rfl (fun _ => rfl) h24 ?_
  refine x_iload 93 6 dX3_most_93 rfl ?_
  refine x_iload 95 7 dX3_most_95 rfl ?_
  refine x_iconst 97 (1 : Int32) dX3_most_97 (by decide) ?_
  refine x_iadd 98 dX3_most_98 ?_
  obtain ⟨h25, H⟩ := x_ckp H
  obtain ⟨M26, w27, H⟩ := x_lt_of H
  have h28 : x_tag M26 v0 = 3 + 10 := by rw [w27]; exact h24
  have h29 : x_at M26 (x_r M v0 1) 1 v6 = true := by rw [w27]; exact h25
  have h30 : x_tag M26 (x_r M v0 1) = 1 := by rw [w27]; exact (x_at_1 h25)
  refine x_iast' 99 dX3_most_99 h25 w27 ?_
  refine x_iinc 100 6 (v6 + (-1 : Int32)) [some (.ref v0), some (.ref v1), none, some (.int v3), some (.ref v4), some (.int v5), some (.int (v6 + (-1 : Int32))), some (.int v7)] dX3_most_100 rfl (congrArg (fun z : Int32 => v6 + z) (show Int32.ofInt (-1) = (-1 : Int32) by decide)) rfl (Nat.le_of_ble_eq_true rfl) rfl ?_
  refine x_goto 103 34 dX3_most_103 (by decide) ?_
  exact x_wk (le_s (le_s (le_s (le_s (le_s (le_s (le_s (le_n le_0)))))))) (hκ34 _ _ _ _ _ _ _ H)

def bd_X3_most_34 (κ11 : Nat → Nat → Int32 → Nat → Int32 → XM → Option (Int32 × XM)) (κ34 : Nat → Nat → Int32 → Nat → Int32 → Int32 → XM → Option (Int32 × XM)) (v0 : Nat) (v1 : Nat) (v3 : Int32) (v4 : Nat) (v5 : Int32) (v6 : Int32) (M : XM) : Option (Int32 × XM) :=
  if v6 < 0 then (if x_tag M v0 = 3 + 10 then (x_bv (f_X3_swap v0 M) (fun M18 => κ11 v0 v1 v3 v4 (v5 + (-1 : Int32)) M18)) else none) else (if x_tag M v0 = 3 + 10 then (if x_at M (x_r M v0 1) 1 (v6 + (1 : Int32)) = true then (if v3 ≤ v5 then (f_X3_most_89 κ11 κ34 v0 v1 v3 v4 v5 v6 (x_i M (x_r M v0 1) (v6 + (1 : Int32)).toNatClampNeg) M) else (if x_tag M v4 = 2 + 10 then (if x_tag M v1 = 4 + 10 then (x_bd (f_X2_leftAt v4 v6 (((x_i M v4 4) + v5) + (1 : Int32)) (x_i M v1 3) M) (fun r34 M33 => if x_at M33 (x_r M v0 0) 1 r34 = true then (f_X3_most_89 κ11 κ34 v0 v1 v3 v4 v5 v6 (if (x_i M (x_r M v0 1) (v6 + (1 : Int32)).toNatClampNeg) < (x_i M33 (x_r M v0 0) r34.toNatClampNeg) then (x_i M33 (x_r M v0 0) r34.toNatClampNeg) else (x_i M (x_r M v0 1) (v6 + (1 : Int32)).toNatClampNeg)) M33) else none)) else none) else none)) else none) else none)
set_option maxRecDepth 20000 in
set_option maxHeartbeats 4000000 in
theorem tb_X3_most_34 (l : Launch) {κ11 : Nat → Nat → Int32 → Nat → Int32 → XM → Option (Int32 × XM)} {κ34 : Nat → Nat → Int32 → Nat → Int32 → Int32 → XM → Option (Int32 × XM)} {v0 : Nat} {v1 : Nat} {v3 : Int32} {v4 : Nat} {v5 : Int32} {v6 : Int32} {M : XM} {q : Int32 × XM} (hκ11 : ∀ (v0 : Nat) (v1 : Nat) (v3 : Int32) (v4 : Nat) (v5 : Int32) (M : XM), κ11 v0 v1 v3 v4 v5 M = some q → AW l m_X3_most 2 0 0 (x_Ri q) 0 0 11 [some (.ref v0), some (.ref v1), none, some (.int v3), some (.ref v4), some (.int v5), none, none] [] M) (hκ34 : ∀ (v0 : Nat) (v1 : Nat) (v3 : Int32) (v4 : Nat) (v5 : Int32) (v6 : Int32) (M : XM), κ34 v0 v1 v3 v4 v5 v6 M = some q → AW l m_X3_most 2 0 0 (x_Ri q) 0 0 34 [some (.ref v0), some (.ref v1), none, some (.int v3), some (.ref v4), some (.int v5), some (.int v6), none] [] M) (H : bd_X3_most_34 κ11 κ34 v0 v1 v3 v4 v5 v6 M = some q) : AW l m_X3_most 2 0 0 (x_Ri q) 0 0 34 [some (.ref v0), some (.ref v1), none, some (.int v3), some (.ref v4), some (.int v5), some (.int v6), none] [] M := by
  unfold bd_X3_most_34 at H
  refine x_iload 34 6 dX3_most_34 rfl ?_
  refine x_if_lt 36 106 dX3_most_36 (by decide) (fun c16 => ?_) (fun c16 => ?_)
  · replace H := x_ifp c16 H
    refine x_aload_n 106 0 dX3_most_106 rfl rfl ?_
    obtain ⟨h17, H⟩ := x_ckp H
    obtain ⟨M18, e20, H⟩ := x_bv_of H
    refine x_callV 107 46 3 [] [] dX3_most_107 (ct_X3_swap l e20) lk_842 lk_844 lk_24 (by decide) h17 lk_91 lk_845 ⟨cn_X3_swap, (by decide), by decide⟩ rfl (Nat.le_of_ble_eq_true rfl) (Nat.le_of_ble_eq_true rfl) (Nat.le_of_ble_eq_true rfl) (x_rv ?_)
    refine x_iinc 110 5 (v5 + (-1 : Int32)) [some (.ref v0), some (.ref v1), none, some (.int v3), some (.ref v4), some (.int (v5 + (-1 : Int32))), some (.int v6), none] dX3_most_110 rfl (congrArg (fun z : Int32 => v5 + z) (show Int32.ofInt (-1) = (-1 : Int32) by decide)) rfl (Nat.le_of_ble_eq_true rfl) rfl ?_
    refine x_goto 113 11 dX3_most_113 (by decide) ?_
    exact x_wk (le_s (le_s (le_s (le_s (le_s (le_s (le_n (le_s le_0)))))))) (hκ11 _ _ _ _ _ _ H)
  · replace H := x_ifn c16 H
    refine x_aload_n 39 0 dX3_most_39 rfl rfl ?_
    obtain ⟨h21, H⟩ := x_ckp H
    refine x_getf 40 15 3 1 (.ref (x_r M v0 1)) dX3_most_40 lk_303 (by decide) (by decide) rfl (fun _ => rfl) h21 ?_
    refine x_iload 43 6 dX3_most_43 rfl ?_
    refine x_iconst 45 (1 : Int32) dX3_most_45 (by decide) ?_
    refine x_iadd 46 dX3_most_46 ?_
    obtain ⟨h22, H⟩ := x_ckp H
    refine x_iald 47 dX3_most_47 h22 ?_
    refine x_istore 48 7 [some (.ref v0), some (.ref v1), none, some (.int v3), some (.ref v4), some (.int v5), some (.int v6), some (.int (x_i M (x_r M v0 1) (v6 + (1 : Int32)).toNatClampNeg))] dX3_most_48 rfl (Nat.le_of_ble_eq_true rfl) rfl ?_
    refine x_iload 50 5 dX3_most_50 rfl ?_
    refine x_iload_n 52 3 dX3_most_52 rfl rfl ?_
    refine x_icmp_ge 53 89 dX3_most_53 (by decide) (fun c23 => ?_) (fun c23 => ?_)
    · replace H := x_ifp c23 H
      exact t_X3_most_89 l hκ11 hκ34 H
    · replace H := x_ifn c23 H
      refine x_iload 56 7 dX3_most_56 rfl ?_
      refine x_aload_n 58 0 dX3_most_58 rfl rfl ?_
      refine x_getf 59 9 3 0 (.ref (x_r M v0 0)) dX3_most_59 lk_302 (by decide) (by decide) rfl (fun _ => rfl) h21 ?_
      refine x_aload 62 4 dX3_most_62 rfl ?_
      refine x_iload 64 6 dX3_most_64 rfl ?_
      refine x_aload 66 4 dX3_most_66 rfl ?_
      obtain ⟨h31, H⟩ := x_ckp H
      refine x_getf 68 28 2 4 (.int (x_i M v4 4)) dX3_most_68 lk_138 (by decide) (by decide) rfl (fun _ => rfl) h31 ?_
      refine x_iload 71 5 dX3_most_71 rfl ?_
      refine x_iadd 73 dX3_most_73 ?_
      refine x_iconst 74 (1 : Int32) dX3_most_74 (by decide) ?_
      refine x_iadd 75 dX3_most_75 ?_
      refine x_aload_n 76 1 dX3_most_76 rfl rfl ?_
      obtain ⟨h32, H⟩ := x_ckp H
      refine x_getf 77 33 4 3 (.int (x_i M v1 3)) dX3_most_77 lk_170 (by decide) (by decide) rfl (fun _ => rfl) h32 ?_
      obtain ⟨r34, M33, e35, H⟩ := x_bd_of H
      refine x_callV 80 36 2 [(.int v6), (.int (((x_i M v4 4) + v5) + (1 : Int32))), (.int (x_i M v1 3))] [(.ref (x_r M v0 0)), (.int (x_i M (x_r M v0 1) (v6 + (1 : Int32)).toNatClampNeg))] dX3_most_80 (ct_X2_leftAt l e35) lk_840 lk_708 lk_709 (by decide) h31 lk_87 lk_710 ⟨cn_X2_leftAt, (by decide), by decide⟩ rfl (Nat.le_of_ble_eq_true rfl) (Nat.le_of_ble_eq_true rfl) (Nat.le_of_ble_eq_true rfl) (x_ri ?_)
      obtain ⟨h36, H⟩ := x_ckp H
      refine x_iald 83 dX3_most_83 h36 ?_
      refine x_max 84 40 dX3_most_84 lk_841 lk_657 lk_97 lk_658 rfl (Nat.le_of_ble_eq_true rfl) (by decide) (Nat.le_of_ble_eq_true rfl) (Nat.le_of_ble_eq_true rfl) ?_
      refine x_istore 87 7 [some (.ref v0), some (.ref v1), none, some (.int v3), some (.ref v4), some (.int v5), some (.int v6), some (.int (if (x_i M (x_r M v0 1) (v6 + (1 : Int32)).toNatClampNeg) < (x_i M33 (x_r M v0 0) r34.toNatClampNeg) then (x_i M33 (x_r M v0 0) r34.toNatClampNeg) else (x_i M (x_r M v0 1) (v6 + (1 : Int32)).toNatClampNeg)))] dX3_most_87 rfl (Nat.le_of_ble_eq_true rfl) rfl ?_
      exact t_X3_most_89 l hκ11 hκ34 H

def lp_X3_most_34 (κ11 : Nat → Nat → Int32 → Nat → Int32 → XM → Option (Int32 × XM)) (n : Nat) : Nat → Nat → Int32 → Nat → Int32 → Int32 → XM → Option (Int32 × XM) := x_rec (fun _ _ _ _ _ _ _ => none) (bd_X3_most_34 κ11) n
theorem t_X3_most_34 (l : Launch) {κ11 : Nat → Nat → Int32 → Nat → Int32 → XM → Option (Int32 × XM)} {q : Int32 × XM} (hκ11 : ∀ (v0 : Nat) (v1 : Nat) (v3 : Int32) (v4 : Nat) (v5 : Int32) (M : XM), κ11 v0 v1 v3 v4 v5 M = some q → AW l m_X3_most 2 0 0 (x_Ri q) 0 0 11 [some (.ref v0), some (.ref v1), none, some (.int v3), some (.ref v4), some (.int v5), none, none] [] M) : ∀ (n : Nat) (v0 : Nat) (v1 : Nat) (v3 : Int32) (v4 : Nat) (v5 : Int32) (v6 : Int32) (M : XM), lp_X3_most_34 κ11 n v0 v1 v3 v4 v5 v6 M = some q → AW l m_X3_most 2 0 0 (x_Ri q) 0 0 34 [some (.ref v0), some (.ref v1), none, some (.int v3), some (.ref v4), some (.int v5), some (.int v6), none] [] M := by
  intro n
  induction n with
  | zero => intro v0 v1 v3 v4 v5 v6 M H; cases H
  | succ n ih => intro v0 v1 v3 v4 v5 v6 M H; exact tb_X3_most_34 l hκ11 ih H
def bd_X3_most_11 (κ11 : Nat → Nat → Int32 → Nat → Int32 → XM → Option (Int32 × XM)) (v0 : Nat) (v1 : Nat) (v3 : Int32) (v4 : Nat) (v5 : Int32) (M : XM) : Option (Int32 × XM) :=
  if v5 < 0 then (if x_tag M v0 = 3 + 10 then (if x_tag M v4 = 2 + 10 then (if x_at M (x_r M v0 0) 1 (x_i M v4 2) = true then (some ((x_i M (x_r M v0 0) (x_i M v4 2).toNatClampNeg), M)) else none) else none) else none) else (if x_tag M v0 = 3 + 10 then (if x_tag M v1 = 4 + 10 then (if x_at M (x_r M v0 1) 1 (x_i M v1 2) = true then (x_lt (x_wi M (x_r M v0 1) (x_i M v1 2).toNatClampNeg (0 : Int32)) (fun M10 => lp_X3_most_34 κ11 x_fuel v0 v1 v3 v4 v5 ((x_i M10 v1 2) - (1 : Int32)) M10)) else none) else none) else none)
set_option maxRecDepth 20000 in
set_option maxHeartbeats 4000000 in
theorem tb_X3_most_11 (l : Launch) {κ11 : Nat → Nat → Int32 → Nat → Int32 → XM → Option (Int32 × XM)} {v0 : Nat} {v1 : Nat} {v3 : Int32} {v4 : Nat} {v5 : Int32} {M : XM} {q : Int32 × XM} (hκ11 : ∀ (v0 : Nat) (v1 : Nat) (v3 : Int32) (v4 : Nat) (v5 : Int32) (M : XM), κ11 v0 v1 v3 v4 v5 M = some q → AW l m_X3_most 2 0 0 (x_Ri q) 0 0 11 [some (.ref v0), some (.ref v1), none, some (.int v3), some (.ref v4), some (.int v5), none, none] [] M) (H : bd_X3_most_11 κ11 v0 v1 v3 v4 v5 M = some q) : AW l m_X3_most 2 0 0 (x_Ri q) 0 0 11 [some (.ref v0), some (.ref v1), none, some (.int v3), some (.ref v4), some (.int v5), none, none] [] M := by
  unfold bd_X3_most_11 at H
  refine x_iload 11 5 dX3_most_11 rfl ?_
  refine x_if_lt 13 116 dX3_most_13 (by decide) (fun c3 => ?_) (fun c3 => ?_)
  · replace H := x_ifp c3 H
    refine x_aload_n 116 0 dX3_most_116 rfl rfl ?_
    obtain ⟨h4, H⟩ := x_ckp H
    refine x_getf 117 9 3 0 (.ref (x_r M v0 0)) dX3_most_117 lk_302 (by decide) (by decide) rfl (fun _ => rfl) h4 ?_
    refine x_aload 120 4 dX3_most_120 rfl ?_
    obtain ⟨h5, H⟩ := x_ckp H
    refine x_getf 122 49 2 2 (.int (x_i M v4 2)) dX3_most_122 lk_130 (by decide) (by decide) rfl (fun _ => rfl) h5 ?_
    obtain ⟨h6, H⟩ := x_ckp H
    refine x_iald 125 dX3_most_125 h6 ?_
    cases H
    exact x_iret 126 dX3_most_126 .int rfl rfl (Nat.le_of_ble_eq_true rfl) (Nat.le_of_ble_eq_true rfl) ⟨rfl, rfl⟩
  · replace H := x_ifn c3 H
    refine x_aload_n 16 0 dX3_most_16 rfl rfl ?_
    obtain ⟨h7, H⟩ := x_ckp H
    refine x_getf 17 15 3 1 (.ref (x_r M v0 1)) dX3_most_17 lk_303 (by decide) (by decide) rfl (fun _ => rfl) h7 ?_
    refine x_aload_n 20 1 dX3_most_20 rfl rfl ?_
    obtain ⟨h8, H⟩ := x_ckp H
    refine x_getf 21 24 4 2 (.int (x_i M v1 2)) dX3_most_21 lk_164 (by decide) (by decide) rfl (fun _ => rfl) h8 ?_
    refine x_iconst 24 (0 : Int32) dX3_most_24 (by decide) ?_
    obtain ⟨h9, H⟩ := x_ckp H
    obtain ⟨M10, w11, H⟩ := x_lt_of H
    have h12 : x_tag M10 v0 = 3 + 10 := by rw [w11]; exact h7
    have h13 : x_tag M10 v1 = 4 + 10 := by rw [w11]; exact h8
    have h14 : x_at M10 (x_r M v0 1) 1 (x_i M v1 2) = true := by rw [w11]; exact h9
    have h15 : x_tag M10 (x_r M v0 1) = 1 := by rw [w11]; exact (x_at_1 h9)
    refine x_iast' 25 dX3_most_25 h9 w11 ?_
    refine x_aload_n 26 1 dX3_most_26 rfl rfl ?_
    refine x_getf 27 24 4 2 (.int (x_i M10 v1 2)) dX3_most_27 lk_164 (by decide) (by decide) rfl (fun _ => rfl) h13 ?_
    refine x_iconst 30 (1 : Int32) dX3_most_30 (by decide) ?_
    refine x_isub 31 dX3_most_31 ?_
    refine x_istore 32 6 [some (.ref v0), some (.ref v1), none, some (.int v3), some (.ref v4), some (.int v5), some (.int ((x_i M10 v1 2) - (1 : Int32))), none] dX3_most_32 rfl (Nat.le_of_ble_eq_true rfl) rfl ?_
    exact t_X3_most_34 l hκ11 _ _ _ _ _ _ _ _ H

def lp_X3_most_11 (n : Nat) : Nat → Nat → Int32 → Nat → Int32 → XM → Option (Int32 × XM) := x_rec (fun _ _ _ _ _ _ => none) (bd_X3_most_11) n
theorem t_X3_most_11 (l : Launch) {q : Int32 × XM} : ∀ (n : Nat) (v0 : Nat) (v1 : Nat) (v3 : Int32) (v4 : Nat) (v5 : Int32) (M : XM), lp_X3_most_11 n v0 v1 v3 v4 v5 M = some q → AW l m_X3_most 2 0 0 (x_Ri q) 0 0 11 [some (.ref v0), some (.ref v1), none, some (.int v3), some (.ref v4), some (.int v5), none, none] [] M := by
  intro n
  induction n with
  | zero => intro v0 v1 v3 v4 v5 M H; cases H
  | succ n ih => intro v0 v1 v3 v4 v5 M H; exact tb_X3_most_11 l ih H
def f_X3_most (v0 : Nat) (v1 : Nat) (v2 : Int32) (v3 : Int32) (M : XM) : Option (Int32 × XM) :=
  if x_tag M v1 = 4 + 10 then (if x_at M (x_r M v1 0) 3 v2 = true then (lp_X3_most_11 x_fuel v0 v1 v3 (x_r M (x_r M v1 0) v2.toNatClampNeg) v3 M) else none) else none
set_option maxRecDepth 20000 in
set_option maxHeartbeats 4000000 in
theorem t_X3_most (l : Launch) {v0 : Nat} {v1 : Nat} {v2 : Int32} {v3 : Int32} {M : XM} {q : Int32 × XM} (H : f_X3_most v0 v1 v2 v3 M = some q) : AW l m_X3_most 2 0 0 (x_Ri q) 0 0 0 [some (.ref v0), some (.ref v1), some (.int v2), some (.int v3), none, none, none, none] [] M := by
  unfold f_X3_most at H
  refine x_aload_n 0 1 dX3_most_0 rfl rfl ?_
  obtain ⟨h1, H⟩ := x_ckp H
  refine x_getf 1 18 4 0 (.ref (x_r M v1 0)) dX3_most_1 lk_155 (by decide) (by decide) rfl (fun _ => rfl) h1 ?_
  refine x_iload_n 4 2 dX3_most_4 rfl rfl ?_
  obtain ⟨h2, H⟩ := x_ckp H
  refine x_aald3 5 dX3_most_5 h2 ?_
  refine x_astore 6 4 [some (.ref v0), some (.ref v1), some (.int v2), some (.int v3), some (.ref (x_r M (x_r M v1 0) v2.toNatClampNeg)), none, none, none] dX3_most_6 rfl (Nat.le_of_ble_eq_true rfl) rfl ?_
  refine x_iload_n 8 3 dX3_most_8 rfl rfl ?_
  refine x_istore 9 5 [some (.ref v0), some (.ref v1), some (.int v2), some (.int v3), some (.ref (x_r M (x_r M v1 0) v2.toNatClampNeg)), some (.int v3), none, none] dX3_most_9 rfl (Nat.le_of_ble_eq_true rfl) rfl ?_
  exact x_wk (le_s (le_s (le_n (le_s (le_s (le_s (le_s (le_s le_0)))))))) (t_X3_most_11 l _ _ _ _ _ _ _ H)

theorem ct_X3_most (l : Launch) {v0 : Nat} {v1 : Nat} {v2 : Int32} {v3 : Int32} {M : XM} {q : Int32 × XM} (H : f_X3_most v0 v1 v2 v3 M = some q) : Ct l m_X3_most 2 0 0 [(.ref v0), (.ref v1), (.int v2), (.int v3)] M (x_Ri q) := x_met l m_X3_most 2 0 0 [(.ref v0), (.ref v1), (.int v2), (.int v3)] M (x_Ri q) _ rfl rfl (Nat.le_of_ble_eq_true rfl) (t_X3_most l H)
theorem lk_854 : Cond.methodLink RX3 52 yJ7_fill_53178 ∈ x_TB := x_tb (k := 854) (by decide +kernel) rfl
abbrev m_X3_hasBit : XU := (yX3_hasBit, cX3_hasBit, 2, (some .boolean))
theorem cn_X3_hasBit : m_X3_hasBit.1.cls ≠ "java/lang/invoke/MethodHandle" ∧ m_X3_hasBit.1.cls ≠ "java/lang/invoke/VarHandle" ∧ (parseMethodDescriptor m_X3_hasBit.1.desc).map (fun q => q.parameters.length) = some 2 := by decide +kernel
def f_X3_hasBit (v0 : Int32) (v1 : Int32) (M : XM) : Option (Int32 × XM) :=
  if ((v0 >>> (v1 &&& 31)) &&& (1 : Int32)) = 0 then (some ((0 : Int32), M)) else (some ((1 : Int32), M))
set_option maxRecDepth 20000 in
set_option maxHeartbeats 4000000 in
theorem t_X3_hasBit (l : Launch) {v0 : Int32} {v1 : Int32} {M : XM} {q : Int32 × XM} (H : f_X3_hasBit v0 v1 M = some q) : AW l m_X3_hasBit 1 0 0 (x_Ri q) 0 0 0 [some (.int v0), some (.int v1)] [] M := by
  unfold f_X3_hasBit at H
  refine x_iload_n 0 0 dX3_hasBit_0 rfl rfl ?_
  refine x_iload_n 1 1 dX3_hasBit_1 rfl rfl ?_
  refine x_ishr 2 dX3_hasBit_2 ?_
  refine x_iconst 3 (1 : Int32) dX3_hasBit_3 (by decide) ?_
  refine x_iand 4 dX3_hasBit_4 ?_
  refine x_if_eq 5 12 dX3_hasBit_5 (by decide) (fun c1 => ?_) (fun c1 => ?_)
  · replace H := x_ifp c1 H
    refine x_iconst 12 (0 : Int32) dX3_hasBit_12 (by decide) ?_
    cases H
    exact x_iret 13 dX3_hasBit_13 .boolean rfl rfl (Nat.le_of_ble_eq_true rfl) (Nat.le_of_ble_eq_true rfl) ⟨rfl, rfl⟩
  · replace H := x_ifn c1 H
    refine x_iconst 8 (1 : Int32) dX3_hasBit_8 (by decide) ?_
    refine x_goto 9 13 dX3_hasBit_9 (by decide) ?_
    cases H
    exact x_iret 13 dX3_hasBit_13 .boolean rfl rfl (Nat.le_of_ble_eq_true rfl) (Nat.le_of_ble_eq_true rfl) ⟨rfl, rfl⟩

theorem ct_X3_hasBit (l : Launch) {v0 : Int32} {v1 : Int32} {M : XM} {q : Int32 × XM} (H : f_X3_hasBit v0 v1 M = some q) : Ct l m_X3_hasBit 1 0 0 [(.int v0), (.int v1)] M (x_Ri q) := x_met l m_X3_hasBit 1 0 0 [(.int v0), (.int v1)] M (x_Ri q) _ rfl rfl (Nat.le_of_ble_eq_true rfl) (t_X3_hasBit l H)
theorem lk_861 : Cond.code yX3_hasBit cX3_hasBit 2 (some .boolean) ∈ x_TB := x_tb (k := 861) (by decide +kernel) rfl
theorem lk_859 : Cond.methodLink RX3 62 yX3_hasBit ∈ x_TB := x_tb (k := 859) (by decide +kernel) rfl
theorem lk_860 : Cond.static yX3_hasBit ∈ x_TB := x_tb (k := 860) (by decide +kernel) rfl
abbrev m_X3_spread : XU := (yX3_spread, cX3_spread, 7, none)
theorem cn_X3_spread : m_X3_spread.1.cls ≠ "java/lang/invoke/MethodHandle" ∧ m_X3_spread.1.cls ≠ "java/lang/invoke/VarHandle" ∧ (parseMethodDescriptor m_X3_spread.1.desc).map (fun q => q.parameters.length) = some 3 := by decide +kernel
def f_X3_spread_83 (κ30 : Nat → Nat → Nat → Int32 → Int32 → Int32 → XM → Option XM) (v0 : Nat) (v1 : Nat) (v2 : Nat) (v3 : Int32) (v4 : Int32) (v5 : Int32) (M : XM) : Option XM :=
  κ30 v0 v1 v2 v3 v4 (v5 + (1 : Int32)) M
set_option maxRecDepth 20000 in
set_option maxHeartbeats 4000000 in
theorem t_X3_spread_83 (l : Launch) {κ30 : Nat → Nat → Nat → Int32 → Int32 → Int32 → XM → Option XM} {v0 : Nat} {v1 : Nat} {v2 : Nat} {v3 : Int32} {v4 : Int32} {v5 : Int32} {M : XM} {q : XM} (hκ30 : ∀ (v0 : Nat) (v1 : Nat) (v2 : Nat) (v3 : Int32) (v4 : Int32) (v5 : Int32) (M : XM), κ30 v0 v1 v2 v3 v4 v5 M = some q → AW l m_X3_spread 2 0 0 (x_Rv q) 0 0 30 [some (.ref v0), some (.ref v1), some (.ref v2), some (.int v3), some (.int v4), some (.int v5), none] [] M) (H : f_X3_spread_83 κ30 v0 v1 v2 v3 v4 v5 M = some q) : AW l m_X3_spread 2 0 0 (x_Rv q) 0 0 83 [some (.ref v0), some (.ref v1), some (.ref v2), some (.int v3), some (.int v4), some (.int v5), none] [] M := by
  unfold f_X3_spread_83 at H
  refine x_iinc 83 5 (v5 + (1 : Int32)) [some (.ref v0), some (.ref v1), some (.ref v2), some (.int v3), some (.int v4), some (.int (v5 + (1 : Int32))), none] dX3_spread_83 rfl (congrArg (fun z : Int32 => v5 + z) (show Int32.ofInt (1) = (1 : Int32) by decide)) rfl (Nat.le_of_ble_eq_true rfl) rfl ?_
  refine x_goto 86 30 dX3_spread_86 (by decide) ?_
  exact hκ30 _ _ _ _ _ _ _ H

def bd_X3_spread_30 (κ30 : Nat → Nat → Nat → Int32 → Int32 → Int32 → XM → Option XM) (v0 : Nat) (v1 : Nat) (v2 : Nat) (v3 : Int32) (v4 : Int32) (v5 : Int32) (M : XM) : Option XM :=
  if (8 : Int32) ≤ v5 then (some M) else (if x_tag M v2 = 2 + 10 then (if x_tag M v1 = 4 + 10 then (x_bd (f_X2_leftAt v2 v3 (((x_i M v2 4) + v5) + (1 : Int32)) (x_i M v1 3) M) (fun r16 M15 => x_bd (f_X3_hasBit v4 v5 M15) (fun r19 M18 => if r19 = 0 then (f_X3_spread_83 κ30 v0 v1 v2 v3 v4 v5 M18) else (if x_tag M18 v0 = 3 + 10 then (if x_at M18 (x_r M18 v0 1) 1 r16 = true then (x_lt (x_wi M18 (x_r M18 v0 1) r16.toNatClampNeg ((x_i M18 (x_r M18 v0 1) r16.toNatClampNeg) ||| ((1 : Int32) <<< ((v5 + (1 : Int32)) &&& 31)))) (fun M24 => f_X3_spread_83 κ30 v0 v1 v2 v3 v4 v5 M24)) else none) else none)))) else none) else none)
set_option maxRecDepth 20000 in
set_option maxHeartbeats 4000000 in
theorem tb_X3_spread_30 (l : Launch) {κ30 : Nat → Nat → Nat → Int32 → Int32 → Int32 → XM → Option XM} {v0 : Nat} {v1 : Nat} {v2 : Nat} {v3 : Int32} {v4 : Int32} {v5 : Int32} {M : XM} {q : XM} (hκ30 : ∀ (v0 : Nat) (v1 : Nat) (v2 : Nat) (v3 : Int32) (v4 : Int32) (v5 : Int32) (M : XM), κ30 v0 v1 v2 v3 v4 v5 M = some q → AW l m_X3_spread 2 0 0 (x_Rv q) 0 0 30 [some (.ref v0), some (.ref v1), some (.ref v2), some (.int v3), some (.int v4), some (.int v5), none] [] M) (H : bd_X3_spread_30 κ30 v0 v1 v2 v3 v4 v5 M = some q) : AW l m_X3_spread 2 0 0 (x_Rv q) 0 0 30 [some (.ref v0), some (.ref v1), some (.ref v2), some (.int v3), some (.int v4), some (.int v5), none] [] M := by
  unfold bd_X3_spread_30 at H
  refine x_iload 30 5 dX3_spread_30 rfl ?_
  refine x_bipush 32 (8 : Int32) dX3_spread_32 (by decide) ?_
  refine x_icmp_ge 34 89 dX3_spread_34 (by decide) (fun c12 => ?_) (fun c12 => ?_)
  · replace H := x_ifp c12 H
    cases H
    exact x_vret 89 dX3_spread_89 rfl (Nat.le_of_ble_eq_true rfl) (Nat.le_of_ble_eq_true rfl) ⟨rfl, rfl⟩
  · replace H := x_ifn c12 H
    refine x_aload_n 37 2 dX3_spread_37 rfl rfl ?_
    refine x_iload_n 38 3 dX3_spread_38 rfl rfl ?_
    refine x_aload_n 39 2 dX3_spread_39 rfl rfl ?_
    obtain ⟨h13, H⟩ := x_ckp H
    refine x_getf 40 28 2 4 (.int (x_i M v2 4)) dX3_spread_40 lk_138 (by decide) (by decide) rfl (fun _ => rfl) h13 ?_
    refine x_iload 43 5 dX3_spread_43 rfl ?_
    refine x_iadd 45 dX3_spread_45 ?_
    refine x_iconst 46 (1 : Int32) dX3_spread_46 (by decide) ?_
    refine x_iadd 47 dX3_spread_47 ?_
    refine x_aload_n 48 1 dX3_spread_48 rfl rfl ?_
    obtain ⟨h14, H⟩ := x_ckp H
    refine x_getf 49 33 4 3 (.int (x_i M v1 3)) dX3_spread_49 lk_170 (by decide) (by decide) rfl (fun _ => rfl) h14 ?_
    obtain ⟨r16, M15, e17, H⟩ := x_bd_of H
    refine x_callV 52 36 2 [(.int v3), (.int (((x_i M v2 4) + v5) + (1 : Int32))), (.int (x_i M v1 3))] [] dX3_spread_52 (ct_X2_leftAt l e17) lk_840 lk_708 lk_709 (by decide) h13 lk_87 lk_710 ⟨cn_X2_leftAt, (by decide), by decide⟩ rfl (Nat.le_of_ble_eq_true rfl) (Nat.le_of_ble_eq_true rfl) (Nat.le_of_ble_eq_true rfl) (x_ri ?_)
    refine x_istore 55 6 [some (.ref v0), some (.ref v1), some (.ref v2), some (.int v3), some (.int v4), some (.int v5), some (.int r16)] dX3_spread_55 rfl (Nat.le_of_ble_eq_true rfl) rfl ?_
    refine x_iload 57 4 dX3_spread_57 rfl ?_
    refine x_iload 59 5 dX3_spread_59 rfl ?_
    obtain ⟨r19, M18, e20, H⟩ := x_bd_of H
    refine x_callS 61 62 [(.int v4), (.int v5)] [] dX3_spread_61 (ct_X3_hasBit l e20) lk_859 lk_860 lk_91 lk_861 ⟨cn_X3_hasBit, (by decide), by decide⟩ rfl (Nat.le_of_ble_eq_true rfl) (Nat.le_of_ble_eq_true rfl) (Nat.le_of_ble_eq_true rfl) (x_ri ?_)
    refine x_if_eq 64 83 dX3_spread_64 (by decide) (fun c21 => ?_) (fun c21 => ?_)
    · replace H := x_ifp c21 H
      exact x_wk (le_s (le_s (le_s (le_s (le_s (le_s (le_n le_0))))))) (t_X3_spread_83 l hκ30 H)
    · replace H := x_ifn c21 H
      refine x_aload_n 67 0 dX3_spread_67 rfl rfl ?_
      obtain ⟨h22, H⟩ := x_ckp H
      refine x_getf 68 15 3 1 (.ref (x_r M18 v0 1)) dX3_spread_68 lk_303 (by decide) (by decide) rfl (fun _ => rfl) h22 ?_
      refine x_iload 71 6 dX3_spread_71 rfl ?_
      refine x_dup2 73 dX3_spread_73 rfl rfl ?_
      obtain ⟨h23, H⟩ := x_ckp H
      refine x_iald 74 dX3_spread_74 h23 ?_
      refine x_iconst 75 (1 : Int32) dX3_spread_75 (by decide) ?_
      refine x_iload 76 5 dX3_spread_76 rfl ?_
      refine x_iconst 78 (1 : Int32) dX3_spread_78 (by decide) ?_
      refine x_iadd 79 dX3_spread_79 ?_
      refine x_ishl 80 dX3_spread_80 ?_
      refine x_ior 81 dX3_spread_81 ?_
      obtain ⟨M24, w25, H⟩ := x_lt_of H
      have h26 : x_tag M24 v0 = 3 + 10 := by rw [w25]; exact h22
      have h27 : x_at M24 (x_r M18 v0 1) 1 r16 = true := by rw [w25]; exact h23
      have h28 : x_tag M24 (x_r M18 v0 1) = 1 := by rw [w25]; exact (x_at_1 h23)
      refine x_iast' 82 dX3_spread_82 h23 w25 ?_
      exact x_wk (le_s (le_s (le_s (le_s (le_s (le_s (le_n le_0))))))) (t_X3_spread_83 l hκ30 H)

def lp_X3_spread_30 (n : Nat) : Nat → Nat → Nat → Int32 → Int32 → Int32 → XM → Option XM := x_rec (fun _ _ _ _ _ _ _ => none) (bd_X3_spread_30) n
theorem t_X3_spread_30 (l : Launch) {q : XM} : ∀ (n : Nat) (v0 : Nat) (v1 : Nat) (v2 : Nat) (v3 : Int32) (v4 : Int32) (v5 : Int32) (M : XM), lp_X3_spread_30 n v0 v1 v2 v3 v4 v5 M = some q → AW l m_X3_spread 2 0 0 (x_Rv q) 0 0 30 [some (.ref v0), some (.ref v1), some (.ref v2), some (.int v3), some (.int v4), some (.int v5), none] [] M := by
  intro n
  induction n with
  | zero => intro v0 v1 v2 v3 v4 v5 M H; cases H
  | succ n ih => intro v0 v1 v2 v3 v4 v5 M H; exact tb_X3_spread_30 l ih H
def f_X3_spread (v0 : Nat) (v1 : Nat) (v2 : Nat) (v3 : Int32) (M : XM) : Option XM :=
  if x_tag M v0 = 3 + 10 then (if x_at M (x_r M v0 0) 1 v3 = true then (if (x_i M (x_r M v0 0) v3.toNatClampNeg) = 0 then (some M) else (if x_at M (x_r M v0 1) 1 (v3 + (1 : Int32)) = true then (x_lt (x_wi M (x_r M v0 1) (v3 + (1 : Int32)).toNatClampNeg ((x_i M (x_r M v0 1) (v3 + (1 : Int32)).toNatClampNeg) ||| (x_i M (x_r M v0 0) v3.toNatClampNeg))) (fun M5 => lp_X3_spread_30 x_fuel v0 v1 v2 v3 (x_i M (x_r M v0 0) v3.toNatClampNeg) (0 : Int32) M5)) else none)) else none) else none
set_option maxRecDepth 20000 in
set_option maxHeartbeats 4000000 in
theorem t_X3_spread (l : Launch) {v0 : Nat} {v1 : Nat} {v2 : Nat} {v3 : Int32} {M : XM} {q : XM} (H : f_X3_spread v0 v1 v2 v3 M = some q) : AW l m_X3_spread 2 0 0 (x_Rv q) 0 0 0 [some (.ref v0), some (.ref v1), some (.ref v2), some (.int v3), none, none, none] [] M := by
  unfold f_X3_spread at H
  refine x_aload_n 0 0 dX3_spread_0 rfl rfl ?_
  obtain ⟨h1, H⟩ := x_ckp H
  refine x_getf 1 9 3 0 (.ref (x_r M v0 0)) dX3_spread_1 lk_302 (by decide) (by decide) rfl (fun _ => rfl) h1 ?_
  refine x_iload_n 4 3 dX3_spread_4 rfl rfl ?_
  obtain ⟨h2, H⟩ := x_ckp H
  refine x_iald 5 dX3_spread_5 h2 ?_
  refine x_istore 6 4 [some (.ref v0), some (.ref v1), some (.ref v2), some (.int v3), some (.int (x_i M (x_r M v0 0) v3.toNatClampNeg)), none, none] dX3_spread_6 rfl (Nat.le_of_ble_eq_true rfl) rfl ?_
  refine x_iload 8 4 dX3_spread_8 rfl ?_
  refine x_if_ne 10 14 dX3_spread_10 (by decide) (fun c3 => ?_) (fun c3 => ?_)
  · replace H := x_ifn c3 H
    refine x_aload_n 14 0 dX3_spread_14 rfl rfl ?_
    refine x_getf 15 15 3 1 (.ref (x_r M v0 1)) dX3_spread_15 lk_303 (by decide) (by decide) rfl (fun _ => rfl) h1 ?_
    refine x_iload_n 18 3 dX3_spread_18 rfl rfl ?_
    refine x_iconst 19 (1 : Int32) dX3_spread_19 (by decide) ?_
    refine x_iadd 20 dX3_spread_20 ?_
    refine x_dup2 21 dX3_spread_21 rfl rfl ?_
    obtain ⟨h4, H⟩ := x_ckp H
    refine x_iald 22 dX3_spread_22 h4 ?_
    refine x_iload 23 4 dX3_spread_23 rfl ?_
    refine x_ior 25 dX3_spread_25 ?_
    obtain ⟨M5, w6, H⟩ := x_lt_of H
    have h7 : x_tag M5 v0 = 3 + 10 := by rw [w6]; exact h1
    have h8 : x_at M5 (x_r M v0 0) 1 v3 = true := by rw [w6]; exact h2
    have h9 : x_tag M5 (x_r M v0 0) = 1 := by rw [w6]; exact (x_at_1 h2)
    have h10 : x_at M5 (x_r M v0 1) 1 (v3 + (1 : Int32)) = true := by rw [w6]; exact h4
    have h11 : x_tag M5 (x_r M v0 1) = 1 := by rw [w6]; exact (x_at_1 h4)
    refine x_iast' 26 dX3_spread_26 h4 w6 ?_
    refine x_iconst 27 (0 : Int32) dX3_spread_27 (by decide) ?_
    refine x_istore 28 5 [some (.ref v0), some (.ref v1), some (.ref v2), some (.int v3), some (.int (x_i M (x_r M v0 0) v3.toNatClampNeg)), some (.int (0 : Int32)), none] dX3_spread_28 rfl (Nat.le_of_ble_eq_true rfl) rfl ?_
    exact t_X3_spread_30 l _ _ _ _ _ _ _ _ H
  · replace H := x_ifp c3 H
    cases H
    exact x_vret 13 dX3_spread_13 rfl (Nat.le_of_ble_eq_true rfl) (Nat.le_of_ble_eq_true rfl) ⟨rfl, rfl⟩

theorem ct_X3_spread (l : Launch) {v0 : Nat} {v1 : Nat} {v2 : Nat} {v3 : Int32} {M : XM} {q : XM} (H : f_X3_spread v0 v1 v2 v3 M = some q) : Ct l m_X3_spread 2 0 0 [(.ref v0), (.ref v1), (.ref v2), (.int v3)] M (x_Rv q) := x_met l m_X3_spread 2 0 0 [(.ref v0), (.ref v1), (.ref v2), (.int v3)] M (x_Rv q) _ rfl rfl (Nat.le_of_ble_eq_true rfl) (t_X3_spread l H)
theorem lk_858 : Cond.code yX3_spread cX3_spread 7 none ∈ x_TB := x_tb (k := 858) (by decide +kernel) rfl
theorem lk_855 : Cond.methodLink RX3 58 yX3_spread ∈ x_TB := x_tb (k := 855) (by decide +kernel) rfl
theorem lk_25 : Cond.selects RX3 yX3_spread yX3_spread ∈ x_TB := x_tb (k := 25) (by decide +kernel) rfl
theorem lk_857 : Cond.instanceMethod yX3_spread ∈ x_TB := x_tb (k := 857) (by decide +kernel) rfl
abbrev m_X3_fewestBreaks : XU := (yX3_fewestBreaks, cX3_fewestBreaks, 7, (some .int))
theorem cn_X3_fewestBreaks : m_X3_fewestBreaks.1.cls ≠ "java/lang/invoke/MethodHandle" ∧ m_X3_fewestBreaks.1.cls ≠ "java/lang/invoke/VarHandle" ∧ (parseMethodDescriptor m_X3_fewestBreaks.1.desc).map (fun q => q.parameters.length) = some 3 := by decide +kernel
def bd_X3_fewestBreaks_84 (κ84 : Nat → Nat → Int32 → XM → Option (Int32 × XM)) (v0 : Nat) (v1 : Nat) (v5 : Int32) (M : XM) : Option (Int32 × XM) :=
  if (8 : Int32) < v5 then (some ((-1 : Int32), M)) else (if x_tag M v0 = 3 + 10 then (if x_tag M v1 = 4 + 10 then (if x_at M (x_r M v0 0) 1 (x_i M v1 2) = true then (x_bd (f_X3_hasBit (x_i M (x_r M v0 0) (x_i M v1 2).toNatClampNeg) v5 M) (fun r22 M21 => if r22 = 0 then (κ84 v0 v1 (v5 + (1 : Int32)) M21) else (some (v5, M21)))) else none) else none) else none)
set_option maxRecDepth 20000 in
set_option maxHeartbeats 4000000 in
theorem tb_X3_fewestBreaks_84 (l : Launch) {κ84 : Nat → Nat → Int32 → XM → Option (Int32 × XM)} {v0 : Nat} {v1 : Nat} {v5 : Int32} {M : XM} {q : Int32 × XM} (hκ84 : ∀ (v0 : Nat) (v1 : Nat) (v5 : Int32) (M : XM), κ84 v0 v1 v5 M = some q → AW l m_X3_fewestBreaks 3 0 0 (x_Ri q) 0 0 84 [some (.ref v0), some (.ref v1), none, none, none, some (.int v5), none] [] M) (H : bd_X3_fewestBreaks_84 κ84 v0 v1 v5 M = some q) : AW l m_X3_fewestBreaks 3 0 0 (x_Ri q) 0 0 84 [some (.ref v0), some (.ref v1), none, none, none, some (.int v5), none] [] M := by
  unfold bd_X3_fewestBreaks_84 at H
  refine x_iload 84 5 dX3_fewestBreaks_84 rfl ?_
  refine x_bipush 86 (8 : Int32) dX3_fewestBreaks_86 (by decide) ?_
  refine x_icmp_gt 88 117 dX3_fewestBreaks_88 (by decide) (fun c17 => ?_) (fun c17 => ?_)
  · replace H := x_ifp c17 H
    refine x_iconst 117 (-1 : Int32) dX3_fewestBreaks_117 (by decide) ?_
    cases H
    exact x_iret 118 dX3_fewestBreaks_118 .int rfl rfl (Nat.le_of_ble_eq_true rfl) (Nat.le_of_ble_eq_true rfl) ⟨rfl, rfl⟩
  · replace H := x_ifn c17 H
    refine x_aload_n 91 0 dX3_fewestBreaks_91 rfl rfl ?_
    obtain ⟨h18, H⟩ := x_ckp H
    refine x_getf 92 9 3 0 (.ref (x_r M v0 0)) dX3_fewestBreaks_92 lk_302 (by decide) (by decide) rfl (fun _ => rfl) h18 ?_
    refine x_aload_n 95 1 dX3_fewestBreaks_95 rfl rfl ?_
    obtain ⟨h19, H⟩ := x_ckp H
    refine x_getf 96 24 4 2 (.int (x_i M v1 2)) dX3_fewestBreaks_96 lk_164 (by decide) (by decide) rfl (fun _ => rfl) h19 ?_
    obtain ⟨h20, H⟩ := x_ckp H
    refine x_iald 99 dX3_fewestBreaks_99 h20 ?_
    refine x_iload 100 5 dX3_fewestBreaks_100 rfl ?_
    obtain ⟨r22, M21, e23, H⟩ := x_bd_of H
    refine x_callS 102 62 [(.int (x_i M (x_r M v0 0) (x_i M v1 2).toNatClampNeg)), (.int v5)] [] dX3_fewestBreaks_102 (ct_X3_hasBit l e23) lk_859 lk_860 lk_91 lk_861 ⟨cn_X3_hasBit, (by decide), by decide⟩ rfl (Nat.le_of_ble_eq_true rfl) (Nat.le_of_ble_eq_true rfl) (Nat.le_of_ble_eq_true rfl) (x_ri ?_)
    refine x_if_eq 105 111 dX3_fewestBreaks_105 (by decide) (fun c24 => ?_) (fun c24 => ?_)
    · replace H := x_ifp c24 H
      refine x_iinc 111 5 (v5 + (1 : Int32)) [some (.ref v0), some (.ref v1), none, none, none, some (.int (v5 + (1 : Int32))), none] dX3_fewestBreaks_111 rfl (congrArg (fun z : Int32 => v5 + z) (show Int32.ofInt (1) = (1 : Int32) by decide)) rfl (Nat.le_of_ble_eq_true rfl) rfl ?_
      refine x_goto 114 84 dX3_fewestBreaks_114 (by decide) ?_
      exact hκ84 _ _ _ _ H
    · replace H := x_ifn c24 H
      refine x_iload 108 5 dX3_fewestBreaks_108 rfl ?_
      cases H
      exact x_iret 110 dX3_fewestBreaks_110 .int rfl rfl (Nat.le_of_ble_eq_true rfl) (Nat.le_of_ble_eq_true rfl) ⟨rfl, rfl⟩

def lp_X3_fewestBreaks_84 (n : Nat) : Nat → Nat → Int32 → XM → Option (Int32 × XM) := x_rec (fun _ _ _ _ => none) (bd_X3_fewestBreaks_84) n
theorem t_X3_fewestBreaks_84 (l : Launch) {q : Int32 × XM} : ∀ (n : Nat) (v0 : Nat) (v1 : Nat) (v5 : Int32) (M : XM), lp_X3_fewestBreaks_84 n v0 v1 v5 M = some q → AW l m_X3_fewestBreaks 3 0 0 (x_Ri q) 0 0 84 [some (.ref v0), some (.ref v1), none, none, none, some (.int v5), none] [] M := by
  intro n
  induction n with
  | zero => intro v0 v1 v5 M H; cases H
  | succ n ih => intro v0 v1 v5 M H; exact tb_X3_fewestBreaks_84 l ih H
def bd_X3_fewestBreaks_47 (κ30 : Nat → Nat → Int32 → Nat → Int32 → XM → Option (Int32 × XM)) (κ47 : Nat → Nat → Int32 → Nat → Int32 → Int32 → XM → Option (Int32 × XM)) (v0 : Nat) (v1 : Nat) (v3 : Int32) (v4 : Nat) (v5 : Int32) (v6 : Int32) (M : XM) : Option (Int32 × XM) :=
  if x_tag M v1 = 4 + 10 then (if (x_i M v1 2) ≤ v6 then (if x_tag M v0 = 3 + 10 then (x_bv (f_X3_swap v0 M) (fun M32 => κ30 v0 v1 v3 v4 (v5 + (1 : Int32)) M32)) else none) else (if x_tag M v0 = 3 + 10 then (x_bv (f_X3_spread v0 v1 v4 v6 M) (fun M36 => κ47 v0 v1 v3 v4 v5 (v6 + (1 : Int32)) M36)) else none)) else none
set_option maxRecDepth 20000 in
set_option maxHeartbeats 4000000 in
theorem tb_X3_fewestBreaks_47 (l : Launch) {κ30 : Nat → Nat → Int32 → Nat → Int32 → XM → Option (Int32 × XM)} {κ47 : Nat → Nat → Int32 → Nat → Int32 → Int32 → XM → Option (Int32 × XM)} {v0 : Nat} {v1 : Nat} {v3 : Int32} {v4 : Nat} {v5 : Int32} {v6 : Int32} {M : XM} {q : Int32 × XM} (hκ30 : ∀ (v0 : Nat) (v1 : Nat) (v3 : Int32) (v4 : Nat) (v5 : Int32) (M : XM), κ30 v0 v1 v3 v4 v5 M = some q → AW l m_X3_fewestBreaks 3 0 0 (x_Ri q) 0 0 30 [some (.ref v0), some (.ref v1), none, some (.int v3), some (.ref v4), some (.int v5), none] [] M) (hκ47 : ∀ (v0 : Nat) (v1 : Nat) (v3 : Int32) (v4 : Nat) (v5 : Int32) (v6 : Int32) (M : XM), κ47 v0 v1 v3 v4 v5 v6 M = some q → AW l m_X3_fewestBreaks 3 0 0 (x_Ri q) 0 0 47 [some (.ref v0), some (.ref v1), none, some (.int v3), some (.ref v4), some (.int v5), some (.int v6)] [] M) (H : bd_X3_fewestBreaks_47 κ30 κ47 v0 v1 v3 v4 v5 v6 M = some q) : AW l m_X3_fewestBreaks 3 0 0 (x_Ri q) 0 0 47 [some (.ref v0), some (.ref v1), none, some (.int v3), some (.ref v4), some (.int v5), some (.int v6)] [] M := by
  unfold bd_X3_fewestBreaks_47 at H
  refine x_iload 47 6 dX3_fewestBreaks_47 rfl ?_
  refine x_aload_n 49 1 dX3_fewestBreaks_49 rfl rfl ?_
  obtain ⟨h29, H⟩ := x_ckp H
  refine x_getf 50 24 4 2 (.int (x_i M v1 2)) dX3_fewestBreaks_50 lk_164 (by decide) (by decide) rfl (fun _ => rfl) h29 ?_
  refine x_icmp_ge 53 71 dX3_fewestBreaks_53 (by decide) (fun c30 => ?_) (fun c30 => ?_)
  · replace H := x_ifp c30 H
    refine x_aload_n 71 0 dX3_fewestBreaks_71 rfl rfl ?_
    obtain ⟨h31, H⟩ := x_ckp H
    obtain ⟨M32, e34, H⟩ := x_bv_of H
    refine x_callV 72 46 3 [] [] dX3_fewestBreaks_72 (ct_X3_swap l e34) lk_842 lk_844 lk_24 (by decide) h31 lk_91 lk_845 ⟨cn_X3_swap, (by decide), by decide⟩ rfl (Nat.le_of_ble_eq_true rfl) (Nat.le_of_ble_eq_true rfl) (Nat.le_of_ble_eq_true rfl) (x_rv ?_)
    refine x_iinc 75 5 (v5 + (1 : Int32)) [some (.ref v0), some (.ref v1), none, some (.int v3), some (.ref v4), some (.int (v5 + (1 : Int32))), some (.int v6)] dX3_fewestBreaks_75 rfl (congrArg (fun z : Int32 => v5 + z) (show Int32.ofInt (1) = (1 : Int32) by decide)) rfl (Nat.le_of_ble_eq_true rfl) rfl ?_
    refine x_goto 78 30 dX3_fewestBreaks_78 (by decide) ?_
    exact x_wk (le_s (le_s (le_s (le_s (le_s (le_s (le_n le_0))))))) (hκ30 _ _ _ _ _ _ H)
  · replace H := x_ifn c30 H
    refine x_aload_n 56 0 dX3_fewestBreaks_56 rfl rfl ?_
    refine x_aload_n 57 1 dX3_fewestBreaks_57 rfl rfl ?_
    refine x_aload 58 4 dX3_fewestBreaks_58 rfl ?_
    refine x_iload 60 6 dX3_fewestBreaks_60 rfl ?_
    obtain ⟨h35, H⟩ := x_ckp H
    obtain ⟨M36, e38, H⟩ := x_bv_of H
    refine x_callV 62 58 3 [(.ref v1), (.ref v4), (.int v6)] [] dX3_fewestBreaks_62 (ct_X3_spread l e38) lk_855 lk_857 lk_25 (by decide) h35 lk_91 lk_858 ⟨cn_X3_spread, (by decide), by decide⟩ rfl (Nat.le_of_ble_eq_true rfl) (Nat.le_of_ble_eq_true rfl) (Nat.le_of_ble_eq_true rfl) (x_rv ?_)
    refine x_iinc 65 6 (v6 + (1 : Int32)) [some (.ref v0), some (.ref v1), none, some (.int v3), some (.ref v4), some (.int v5), some (.int (v6 + (1 : Int32)))] dX3_fewestBreaks_65 rfl (congrArg (fun z : Int32 => v6 + z) (show Int32.ofInt (1) = (1 : Int32) by decide)) rfl (Nat.le_of_ble_eq_true rfl) rfl ?_
    refine x_goto 68 47 dX3_fewestBreaks_68 (by decide) ?_
    exact hκ47 _ _ _ _ _ _ _ H

def lp_X3_fewestBreaks_47 (κ30 : Nat → Nat → Int32 → Nat → Int32 → XM → Option (Int32 × XM)) (n : Nat) : Nat → Nat → Int32 → Nat → Int32 → Int32 → XM → Option (Int32 × XM) := x_rec (fun _ _ _ _ _ _ _ => none) (bd_X3_fewestBreaks_47 κ30) n
theorem t_X3_fewestBreaks_47 (l : Launch) {κ30 : Nat → Nat → Int32 → Nat → Int32 → XM → Option (Int32 × XM)} {q : Int32 × XM} (hκ30 : ∀ (v0 : Nat) (v1 : Nat) (v3 : Int32) (v4 : Nat) (v5 : Int32) (M : XM), κ30 v0 v1 v3 v4 v5 M = some q → AW l m_X3_fewestBreaks 3 0 0 (x_Ri q) 0 0 30 [some (.ref v0), some (.ref v1), none, some (.int v3), some (.ref v4), some (.int v5), none] [] M) : ∀ (n : Nat) (v0 : Nat) (v1 : Nat) (v3 : Int32) (v4 : Nat) (v5 : Int32) (v6 : Int32) (M : XM), lp_X3_fewestBreaks_47 κ30 n v0 v1 v3 v4 v5 v6 M = some q → AW l m_X3_fewestBreaks 3 0 0 (x_Ri q) 0 0 47 [some (.ref v0), some (.ref v1), none, some (.int v3), some (.ref v4), some (.int v5), some (.int v6)] [] M := by
  intro n
  induction n with
  | zero => intro v0 v1 v3 v4 v5 v6 M H; cases H
  | succ n ih => intro v0 v1 v3 v4 v5 v6 M H; exact tb_X3_fewestBreaks_47 l hκ30 ih H
def bd_X3_fewestBreaks_30 (κ30 : Nat → Nat → Int32 → Nat → Int32 → XM → Option (Int32 × XM)) (v0 : Nat) (v1 : Nat) (v3 : Int32) (v4 : Nat) (v5 : Int32) (M : XM) : Option (Int32 × XM) :=
  if v3 ≤ v5 then (lp_X3_fewestBreaks_84 x_fuel v0 v1 (0 : Int32) M) else (if x_tag M v0 = 3 + 10 then (x_bv (f_J7_fill_53178 (x_r M v0 1) (0 : Int32) M) (fun M26 => lp_X3_fewestBreaks_47 κ30 x_fuel v0 v1 v3 v4 v5 (0 : Int32) M26)) else none)
set_option maxRecDepth 20000 in
set_option maxHeartbeats 4000000 in
theorem tb_X3_fewestBreaks_30 (l : Launch) {κ30 : Nat → Nat → Int32 → Nat → Int32 → XM → Option (Int32 × XM)} {v0 : Nat} {v1 : Nat} {v3 : Int32} {v4 : Nat} {v5 : Int32} {M : XM} {q : Int32 × XM} (hκ30 : ∀ (v0 : Nat) (v1 : Nat) (v3 : Int32) (v4 : Nat) (v5 : Int32) (M : XM), κ30 v0 v1 v3 v4 v5 M = some q → AW l m_X3_fewestBreaks 3 0 0 (x_Ri q) 0 0 30 [some (.ref v0), some (.ref v1), none, some (.int v3), some (.ref v4), some (.int v5), none] [] M) (H : bd_X3_fewestBreaks_30 κ30 v0 v1 v3 v4 v5 M = some q) : AW l m_X3_fewestBreaks 3 0 0 (x_Ri q) 0 0 30 [some (.ref v0), some (.ref v1), none, some (.int v3), some (.ref v4), some (.int v5), none] [] M := by
  unfold bd_X3_fewestBreaks_30 at H
  refine x_iload 30 5 dX3_fewestBreaks_30 rfl ?_
  refine x_iload_n 32 3 dX3_fewestBreaks_32 rfl rfl ?_
  refine x_icmp_ge 33 81 dX3_fewestBreaks_33 (by decide) (fun c16 => ?_) (fun c16 => ?_)
  · replace H := x_ifp c16 H
    refine x_iconst 81 (0 : Int32) dX3_fewestBreaks_81 (by decide) ?_
    refine x_istore 82 5 [some (.ref v0), some (.ref v1), none, some (.int v3), some (.ref v4), some (.int (0 : Int32)), none] dX3_fewestBreaks_82 rfl (Nat.le_of_ble_eq_true rfl) rfl ?_
    exact x_wk (le_s (le_s (le_s (le_n (le_n (le_s (le_s le_0))))))) (t_X3_fewestBreaks_84 l _ _ _ _ _ H)
  · replace H := x_ifn c16 H
    refine x_aload_n 36 0 dX3_fewestBreaks_36 rfl rfl ?_
    obtain ⟨h25, H⟩ := x_ckp H
    refine x_getf 37 15 3 1 (.ref (x_r M v0 1)) dX3_fewestBreaks_37 lk_303 (by decide) (by decide) rfl (fun _ => rfl) h25 ?_
    refine x_iconst 40 (0 : Int32) dX3_fewestBreaks_40 (by decide) ?_
    obtain ⟨M26, e28, H⟩ := x_bv_of H
    refine x_callS 41 52 [(.ref (x_r M v0 1)), (.int (0 : Int32))] [] dX3_fewestBreaks_41 (ct_J7_fill_53178 l e28) lk_854 lk_787 lk_95 lk_788 ⟨cn_J7_fill_53178, (by decide), by decide⟩ rfl (Nat.le_of_ble_eq_true rfl) (Nat.le_of_ble_eq_true rfl) (Nat.le_of_ble_eq_true rfl) (x_rv ?_)
    refine x_iconst 44 (0 : Int32) dX3_fewestBreaks_44 (by decide) ?_
    refine x_istore 45 6 [some (.ref v0), some (.ref v1), none, some (.int v3), some (.ref v4), some (.int v5), some (.int (0 : Int32))] dX3_fewestBreaks_45 rfl (Nat.le_of_ble_eq_true rfl) rfl ?_
    exact t_X3_fewestBreaks_47 l hκ30 _ _ _ _ _ _ _ _ H

def lp_X3_fewestBreaks_30 (n : Nat) : Nat → Nat → Int32 → Nat → Int32 → XM → Option (Int32 × XM) := x_rec (fun _ _ _ _ _ _ => none) (bd_X3_fewestBreaks_30) n
theorem t_X3_fewestBreaks_30 (l : Launch) {q : Int32 × XM} : ∀ (n : Nat) (v0 : Nat) (v1 : Nat) (v3 : Int32) (v4 : Nat) (v5 : Int32) (M : XM), lp_X3_fewestBreaks_30 n v0 v1 v3 v4 v5 M = some q → AW l m_X3_fewestBreaks 3 0 0 (x_Ri q) 0 0 30 [some (.ref v0), some (.ref v1), none, some (.int v3), some (.ref v4), some (.int v5), none] [] M := by
  intro n
  induction n with
  | zero => intro v0 v1 v3 v4 v5 M H; cases H
  | succ n ih => intro v0 v1 v3 v4 v5 M H; exact tb_X3_fewestBreaks_30 l ih H
def f_X3_fewestBreaks (v0 : Nat) (v1 : Nat) (v2 : Int32) (v3 : Int32) (M : XM) : Option (Int32 × XM) :=
  if x_tag M v1 = 4 + 10 then (if x_at M (x_r M v1 0) 3 v2 = true then (if x_tag M v0 = 3 + 10 then (x_bv (f_J7_fill_53178 (x_r M v0 0) (0 : Int32) M) (fun M4 => if x_tag M4 v0 = 3 + 10 then (if x_tag M4 (x_r M (x_r M v1 0) v2.toNatClampNeg) = 2 + 10 then (if x_at M4 (x_r M4 v0 0) 1 (x_i M4 (x_r M (x_r M v1 0) v2.toNatClampNeg) 2) = true then (x_lt (x_wi M4 (x_r M4 v0 0) (x_i M4 (x_r M (x_r M v1 0) v2.toNatClampNeg) 2).toNatClampNeg (1 : Int32)) (fun M10 => lp_X3_fewestBreaks_30 x_fuel v0 v1 v3 (x_r M (x_r M v1 0) v2.toNatClampNeg) (0 : Int32) M10)) else none) else none) else none)) else none) else none) else none
set_option maxRecDepth 20000 in
set_option maxHeartbeats 4000000 in
theorem t_X3_fewestBreaks (l : Launch) {v0 : Nat} {v1 : Nat} {v2 : Int32} {v3 : Int32} {M : XM} {q : Int32 × XM} (H : f_X3_fewestBreaks v0 v1 v2 v3 M = some q) : AW l m_X3_fewestBreaks 3 0 0 (x_Ri q) 0 0 0 [some (.ref v0), some (.ref v1), some (.int v2), some (.int v3), none, none, none] [] M := by
  unfold f_X3_fewestBreaks at H
  refine x_aload_n 0 1 dX3_fewestBreaks_0 rfl rfl ?_
  obtain ⟨h1, H⟩ := x_ckp H
  refine x_getf 1 18 4 0 (.ref (x_r M v1 0)) dX3_fewestBreaks_1 lk_155 (by decide) (by decide) rfl (fun _ => rfl) h1 ?_
  refine x_iload_n 4 2 dX3_fewestBreaks_4 rfl rfl ?_
  obtain ⟨h2, H⟩ := x_ckp H
  refine x_aald3 5 dX3_fewestBreaks_5 h2 ?_
  refine x_astore 6 4 [some (.ref v0), some (.ref v1), some (.int v2), some (.int v3), some (.ref (x_r M (x_r M v1 0) v2.toNatClampNeg)), none, none] dX3_fewestBreaks_6 rfl (Nat.le_of_ble_eq_true rfl) rfl ?_
  refine x_aload_n 8 0 dX3_fewestBreaks_8 rfl rfl ?_
  obtain ⟨h3, H⟩ := x_ckp H
  refine x_getf 9 9 3 0 (.ref (x_r M v0 0)) dX3_fewestBreaks_9 lk_302 (by decide) (by decide) rfl (fun _ => rfl) h3 ?_
  refine x_iconst 12 (0 : Int32) dX3_fewestBreaks_12 (by decide) ?_
  obtain ⟨M4, e6, H⟩ := x_bv_of H
  refine x_callS 13 52 [(.ref (x_r M v0 0)), (.int (0 : Int32))] [] dX3_fewestBreaks_13 (ct_J7_fill_53178 l e6) lk_854 lk_787 lk_95 lk_788 ⟨cn_J7_fill_53178, (by decide), by decide⟩ rfl (Nat.le_of_ble_eq_true rfl) (Nat.le_of_ble_eq_true rfl) (Nat.le_of_ble_eq_true rfl) (x_rv ?_)
  refine x_aload_n 16 0 dX3_fewestBreaks_16 rfl rfl ?_
  obtain ⟨h7, H⟩ := x_ckp H
  refine x_getf 17 9 3 0 (.ref (x_r M4 v0 0)) dX3_fewestBreaks_17 lk_302 (by decide) (by decide) rfl (fun _ => rfl) h7 ?_
  refine x_aload 20 4 dX3_fewestBreaks_20 rfl ?_
  obtain ⟨h8, H⟩ := x_ckp H
  refine x_getf 22 49 2 2 (.int (x_i M4 (x_r M (x_r M v1 0) v2.toNatClampNeg) 2)) dX3_fewestBreaks_22 lk_130 (by decide) (by decide) rfl (fun _ => rfl) h8 ?_
  refine x_iconst 25 (1 : Int32) dX3_fewestBreaks_25 (by decide) ?_
  obtain ⟨h9, H⟩ := x_ckp H
  obtain ⟨M10, w11, H⟩ := x_lt_of H
  have h12 : x_tag M10 v0 = 3 + 10 := by rw [w11]; exact h7
  have h13 : x_tag M10 (x_r M (x_r M v1 0) v2.toNatClampNeg) = 2 + 10 := by rw [w11]; exact h8
  have h14 : x_at M10 (x_r M4 v0 0) 1 (x_i M4 (x_r M (x_r M v1 0) v2.toNatClampNeg) 2) = true := by rw [w11]; exact h9
  have h15 : x_tag M10 (x_r M4 v0 0) = 1 := by rw [w11]; exact (x_at_1 h9)
  refine x_iast' 26 dX3_fewestBreaks_26 h9 w11 ?_
  refine x_iconst 27 (0 : Int32) dX3_fewestBreaks_27 (by decide) ?_
  refine x_istore 28 5 [some (.ref v0), some (.ref v1), some (.int v2), some (.int v3), some (.ref (x_r M (x_r M v1 0) v2.toNatClampNeg)), some (.int (0 : Int32)), none] dX3_fewestBreaks_28 rfl (Nat.le_of_ble_eq_true rfl) rfl ?_
  exact x_wk (le_s (le_s (le_n (le_s (le_s (le_s (le_s le_0))))))) (t_X3_fewestBreaks_30 l _ _ _ _ _ _ _ H)

theorem ct_X3_fewestBreaks (l : Launch) {v0 : Nat} {v1 : Nat} {v2 : Int32} {v3 : Int32} {M : XM} {q : Int32 × XM} (H : f_X3_fewestBreaks v0 v1 v2 v3 M = some q) : Ct l m_X3_fewestBreaks 3 0 0 [(.ref v0), (.ref v1), (.int v2), (.int v3)] M (x_Ri q) := x_met l m_X3_fewestBreaks 3 0 0 [(.ref v0), (.ref v1), (.int v2), (.int v3)] M (x_Ri q) _ rfl rfl (Nat.le_of_ble_eq_true rfl) (t_X3_fewestBreaks l H)
theorem lk_115 : Cond.methodLink RX4 3 Lib.objectInit ∈ x_TB := x_tb (k := 115) (by decide +kernel) rfl
theorem lk_116 : Cond.classLink RX4 9 RX2 ∈ x_TB := x_tb (k := 116) (by decide +kernel) rfl
theorem lk_167 : Cond.fieldLink RX4 21 RX4 "apart" "I" ∈ x_TB := x_tb (k := 167) (by decide +kernel) rfl
theorem lk_172 : Cond.fieldLink RX4 24 RX4 "odds" "I" ∈ x_TB := x_tb (k := 172) (by decide +kernel) rfl
theorem lk_175 : Cond.fieldLink RX4 27 RX4 "cost" "I" ∈ x_TB := x_tb (k := 175) (by decide +kernel) rfl
theorem lk_177 : Cond.fieldLink RX4 30 RX4 "numbers" "[I" ∈ x_TB := x_tb (k := 177) (by decide +kernel) rfl
theorem lk_183 : Cond.fieldLink RX4 34 RX4 "seed" "I" ∈ x_TB := x_tb (k := 183) (by decide +kernel) rfl
theorem lk_118 : Cond.instantiable RX2 5 ∈ x_TB := x_tb (k := 118) (by decide +kernel) rfl
theorem lk_121 : Cond.code yX2_init cX2_init 1 none ∈ x_TB := x_tb (k := 121) (by decide +kernel) rfl
theorem lk_120 : Cond.instanceMethod yX2_init ∈ x_TB := x_tb (k := 120) (by decide +kernel) rfl
abbrev m_X4_init : XU := (yX4_init, cX4_init, 2, none)
theorem cn_X4_init : m_X4_init.1.cls ≠ "java/lang/invoke/MethodHandle" ∧ m_X4_init.1.cls ≠ "java/lang/invoke/VarHandle" ∧ (parseMethodDescriptor m_X4_init.1.desc).map (fun q => q.parameters.length) = some 0 := by decide +kernel
set_option maxRecDepth 20000 in
def f_X4_init (v0 : Nat) (M : XM) : Option XM :=
  if x_tag M v0 = 4 + 10 then (x_al M 3 6 (fun a3 M2 => if x_tag M2 v0 = 4 + 10 then (x_lt (x_wr M2 v0 0 a3) (fun M8 => x_lt (x_wi M8 v0 2 (20 : Int32)) (fun M12 => x_lt (x_wi M12 v0 3 (5 : Int32)) (fun M16 => x_lt (x_wi M16 v0 4 (100 : Int32)) (fun M20 => x_lt (x_wi M20 v0 5 (1 : Int32)) (fun M24 => x_al M24 1 8 (fun a29 M28 => if x_tag M28 v0 = 4 + 10 then (x_lt (x_wr M28 v0 6 a29) (fun M34 => x_lt (x_wi M34 v0 9 (1 : Int32)) (fun M38 => if x_tag M38 (x_r M38 v0 0) = 3 then (if (Int32.ofNat (x_len M38 (x_r M38 v0 0))) ≤ (0 : Int32) then (some M38) else (x_al M38 (2 + 10) 0 (fun a45 M44 => x_bv (f_X2_init a45 M44) (fun M49 => if x_at M49 (x_r M38 v0 0) 3 (0 : Int32) = true then (if x_tag M49 a45 = 2 + 10 then (x_lt (x_wr M49 (x_r M38 v0 0) (0 : Int32).toNatClampNeg a45) (fun M54 => if x_tag M54 v0 = 4 + 10 then (if x_tag M54 (x_r M54 v0 0) = 3 then (if (Int32.ofNat (x_len M54 (x_r M54 v0 0))) ≤ ((0 : Int32) + (1 : Int32)) then (some M54) else (x_al M54 (2 + 10) 0 (fun a63 M62 => x_bv (f_X2_init a63 M62) (fun M67 => if x_at M67 (x_r M54 v0 0) 3 ((0 : Int32) + (1 : Int32)) = true then (if x_tag M67 a63 = 2 + 10 then (x_lt (x_wr M67 (x_r M54 v0 0) ((0 : Int32) + (1 : Int32)).toNatClampNeg a63) (fun M72 => if x_tag M72 v0 = 4 + 10 then (if x_tag M72 (x_r M72 v0 0) = 3 then (if (Int32.ofNat (x_len M72 (x_r M72 v0 0))) ≤ (((0 : Int32) + (1 : Int32)) + (1 : Int32)) then (some M72) else (x_al M72 (2 + 10) 0 (fun a81 M80 => x_bv (f_X2_init a81 M80) (fun M85 => if x_at M85 (x_r M72 v0 0) 3 (((0 : Int32) + (1 : Int32)) + (1 : Int32)) = true then (if x_tag M85 a81 = 2 + 10 then (x_lt (x_wr M85 (x_r M72 v0 0) (((0 : Int32) + (1 : Int32)) + (1 : Int32)).toNatClampNeg a81) (fun M90 => if x_tag M90 v0 = 4 + 10 then (if x_tag M90 (x_r M90 v0 0) = 3 then (if (Int32.ofNat (x_len M90 (x_r M90 v0 0))) ≤ ((((0 : Int32) + (1 : Int32)) + (1 : Int32)) + (1 : Int32)) then (some M90) else (x_al M90 (2 + 10) 0 (fun a99 M98 => x_bv (f_X2_init a99 M98) (fun M103 => if x_at M103 (x_r M90 v0 0) 3 ((((0 : Int32) + (1 : Int32)) + (1 : Int32)) + (1 : Int32)) = true then (if x_tag M103 a99 = 2 + 10 then (x_lt (x_wr M103 (x_r M90 v0 0) ((((0 : Int32) + (1 : Int32)) + (1 : Int32)) + (1 : Int32)).toNatClampNeg a99) (fun M108 => if x_tag M108 v0 = 4 + 10 then (if x_tag M108 (x_r M108 v0 0) = 3 then (if (Int32.ofNat (x_len M108 (x_r M108 v0 0))) ≤ (((((0 : Int32) + (1 : Int32)) + (1 : Int32)) + (1 : Int32)) + (1 : Int32)) then (some M108) else (x_al M108 (2 + 10) 0 (fun a117 M116 => x_bv (f_X2_init a117 M116) (fun M121 => if x_at M121 (x_r M108 v0 0) 3 (((((0 : Int32) + (1 : Int32)) + (1 : Int32)) + (1 : Int32)) + (1 : Int32)) = true then (if x_tag M121 a117 = 2 + 10 then (x_lt (x_wr M121 (x_r M108 v0 0) (((((0 : Int32) + (1 : Int32)) + (1 : Int32)) + (1 : Int32)) + (1 : Int32)).toNatClampNeg a117) (fun M126 => if x_tag M126 v0 = 4 + 10 then (if x_tag M126 (x_r M126 v0 0) = 3 then (if (Int32.ofNat (x_len M126 (x_r M126 v0 0))) ≤ ((((((0 : Int32) + (1 : Int32)) + (1 : Int32)) + (1 : Int32)) + (1 : Int32)) + (1 : Int32)) then (some M126) else (x_al M126 (2 + 10) 0 (fun a135 M134 => x_bv (f_X2_init a135 M134) (fun M139 => if x_at M139 (x_r M126 v0 0) 3 ((((((0 : Int32) + (1 : Int32)) + (1 : Int32)) + (1 : Int32)) + (1 : Int32)) + (1 : Int32)) = true then (if x_tag M139 a135 = 2 + 10 then (x_lt (x_wr M139 (x_r M126 v0 0) ((((((0 : Int32) + (1 : Int32)) + (1 : Int32)) + (1 : Int32)) + (1 : Int32)) + (1 : Int32)).toNatClampNeg a135) (fun M144 => if x_tag M144 v0 = 4 + 10 then (if x_tag M144 (x_r M144 v0 0) = 3 then (if (Int32.ofNat (x_len M144 (x_r M144 v0 0))) ≤ (((((((0 : Int32) + (1 : Int32)) + (1 : Int32)) + (1 : Int32)) + (1 : Int32)) + (1 : Int32)) + (1 : Int32)) then (some M144) else (x_al M144 (2 + 10) 0 (fun a153 M152 => x_bv (f_X2_init a153 M152) (fun M157 => if x_at M157 (x_r M144 v0 0) 3 (((((((0 : Int32) + (1 : Int32)) + (1 : Int32)) + (1 : Int32)) + (1 : Int32)) + (1 : Int32)) + (1 : Int32)) = true then (if x_tag M157 a153 = 2 + 10 then (x_lt (x_wr M157 (x_r M144 v0 0) (((((((0 : Int32) + (1 : Int32)) + (1 : Int32)) + (1 : Int32)) + (1 : Int32)) + (1 : Int32)) + (1 : Int32)).toNatClampNeg a153) (fun M162 => none)) else none) else none)))) else none) else none)) else none) else none)))) else none) else none)) else none) else none)))) else none) else none)) else none) else none)))) else none) else none)) else none) else none)))) else none) else none)) else none) else none)))) else none) else none)) else none) else none)))) else none))) else none))))))) else none)) else none
set_option maxRecDepth 20000 in
set_option maxHeartbeats 4000000 in
theorem t_X4_init (l : Launch) {v0 : Nat} {M : XM} {q : XM} (H : f_X4_init v0 M = some q) : AW l m_X4_init 2 9 49 (x_Rv q) 0 0 0 [some (.ref v0), none] [] M := by
  unfold f_X4_init at H
  refine x_aload_n 0 0 dX4_init_0 rfl rfl ?_
  obtain ⟨h1, H⟩ := x_ckp H
  refine x_objInit 1 3 dX4_init_1 lk_115 lk_108 lk_109 h1 rfl (Nat.le_of_ble_eq_true rfl) (by decide) ?_
  refine x_aload_n 4 0 dX4_init_4 rfl rfl ?_
  refine x_bipush 5 (6 : Int32) dX4_init_5 (by decide) ?_
  obtain ⟨a3, M2, w4, w5, H⟩ := x_al_of H
  refine x_anew3' 7 9 6 dX4_init_7 lk_116 (by decide) (by decide) (by decide) (Nat.le_of_ble_eq_true rfl) (Nat.le_of_ble_eq_true rfl) w4 w5 ?_
  have h6 : x_tag M2 a3 = 3 := x_al_tag w4 w5
  change AW _ _ _ _ _ _ 1 6 _ _ _ _
  obtain ⟨h7, H⟩ := x_ckp H
  obtain ⟨M8, w9, H⟩ := x_lt_of H
  have h10 : x_tag M8 a3 = 3 := by rw [w9]; exact h6
  have h11 : x_tag M8 v0 = 4 + 10 := by rw [w9]; exact h7
  refine x_putR' 10 11 4 0 dX4_init_10 lk_154 (by decide) (by decide) rfl (Or.inr ⟨_, rfl⟩) (Or.inr ⟨rfl, rfl⟩) h7 w9 ?_
  refine x_aload_n 13 0 dX4_init_13 rfl rfl ?_
  refine x_bipush 14 (20 : Int32) dX4_init_14 (by decide) ?_
  obtain ⟨M12, w13, H⟩ := x_lt_of H
  have h14 : x_tag M12 a3 = 3 := by rw [w13]; exact h10
  have h15 : x_tag M12 v0 = 4 + 10 := by rw [w13]; exact h11
  refine x_putI' 16 17 4 2 dX4_init_16 lk_162 (by decide) (by decide) rfl (Or.inl rfl) (Or.inl rfl) h11 w13 ?_
  refine x_aload_n 19 0 dX4_init_19 rfl rfl ?_
  refine x_iconst 20 (5 : Int32) dX4_init_20 (by decide) ?_
  obtain ⟨M16, w17, H⟩ := x_lt_of H
  have h18 : x_tag M16 a3 = 3 := by rw [w17]; exact h14
  have h19 : x_tag M16 v0 = 4 + 10 := by rw [w17]; exact h15
  refine x_putI' 21 21 4 3 dX4_init_21 lk_167 (by decide) (by decide) rfl (Or.inl rfl) (Or.inl rfl) h15 w17 ?_
  refine x_aload_n 24 0 dX4_init_24 rfl rfl ?_
  refine x_bipush 25 (100 : Int32) dX4_init_25 (by decide) ?_
  obtain ⟨M20, w21, H⟩ := x_lt_of H
  have h22 : x_tag M20 a3 = 3 := by rw [w21]; exact h18
  have h23 : x_tag M20 v0 = 4 + 10 := by rw [w21]; exact h19
  refine x_putI' 27 24 4 4 dX4_init_27 lk_172 (by decide) (by decide) rfl (Or.inl rfl) (Or.inl rfl) h19 w21 ?_
  refine x_aload_n 30 0 dX4_init_30 rfl rfl ?_
  refine x_iconst 31 (1 : Int32) dX4_init_31 (by decide) ?_
  obtain ⟨M24, w25, H⟩ := x_lt_of H
  have h26 : x_tag M24 a3 = 3 := by rw [w25]; exact h22
  have h27 : x_tag M24 v0 = 4 + 10 := by rw [w25]; exact h23
  refine x_putI' 32 27 4 5 dX4_init_32 lk_175 (by decide) (by decide) rfl (Or.inl rfl) (Or.inl rfl) h23 w25 ?_
  refine x_aload_n 35 0 dX4_init_35 rfl rfl ?_
  refine x_bipush 36 (8 : Int32) dX4_init_36 (by decide) ?_
  obtain ⟨a29, M28, w30, w31, H⟩ := x_al_of H
  refine x_newI' 38 8 dX4_init_38 lk_153 (by decide) (by decide) (by decide) (Nat.le_of_ble_eq_true rfl) (Nat.le_of_ble_eq_true rfl) w30 w31 ?_
  have h32 : x_tag M28 a29 = 1 := x_al_tag w30 w31
  change AW _ _ _ _ _ _ 2 14 _ _ _ _
  obtain ⟨h33, H⟩ := x_ckp H
  obtain ⟨M34, w35, H⟩ := x_lt_of H
  have h36 : x_tag M34 a29 = 1 := by rw [w35]; exact h32
  have h37 : x_tag M34 v0 = 4 + 10 := by rw [w35]; exact h33
  refine x_putR' 40 30 4 6 dX4_init_40 lk_177 (by decide) (by decide) rfl (Or.inr ⟨_, rfl⟩) (Or.inr ⟨rfl, rfl⟩) h33 w35 ?_
  refine x_aload_n 43 0 dX4_init_43 rfl rfl ?_
  refine x_iconst 44 (1 : Int32) dX4_init_44 (by decide) ?_
  obtain ⟨M38, w39, H⟩ := x_lt_of H
  have h40 : x_tag M38 a29 = 1 := by rw [w39]; exact h36
  have h41 : x_tag M38 v0 = 4 + 10 := by rw [w39]; exact h37
  refine x_putI' 45 34 4 9 dX4_init_45 lk_183 (by decide) (by decide) rfl (Or.inl rfl) (Or.inl rfl) h37 w39 ?_
  refine x_iconst 48 (0 : Int32) dX4_init_48 (by decide) ?_
  refine x_istore_n 49 1 [some (.ref v0), some (.int (0 : Int32))] dX4_init_49 rfl rfl (Nat.le_of_ble_eq_true rfl) rfl ?_
  refine x_iload_n 50 1 dX4_init_50 rfl rfl ?_
  refine x_aload_n 51 0 dX4_init_51 rfl rfl ?_
  refine x_getf 52 11 4 0 (.ref (x_r M38 v0 0)) dX4_init_52 lk_154 (by decide) (by decide) rfl (fun _ => rfl) h41 ?_
  obtain ⟨h42, H⟩ := x_ckp H
  refine x_alen 55 3 dX4_init_55 h42 (by decide) ?_
  refine x_icmp_ge 56 78 dX4_init_56 (by decide) (fun c43 => ?_) (fun c43 => ?_)
  · replace H := x_ifp c43 H
    cases H
    exact x_vret 78 dX4_init_78 rfl (Nat.le_of_ble_eq_true rfl) (Nat.le_of_ble_eq_true rfl) ⟨rfl, rfl⟩
  · replace H := x_ifn c43 H
    refine x_aload_n 59 0 dX4_init_59 rfl rfl ?_
    refine x_getf 60 11 4 0 (.ref (x_r M38 v0 0)) dX4_init_60 lk_154 (by decide) (by decide) rfl (fun _ => rfl) h41 ?_
    refine x_iload_n 63 1 dX4_init_63 rfl rfl ?_
    obtain ⟨a45, M44, w46, w47, H⟩ := x_al_of H
    refine x_newc' 64 9 2 dX4_init_64 (by decide) lk_116 lk_118 lk_87 (Nat.le_of_ble_eq_true rfl) (Nat.le_of_ble_eq_true rfl) w46 w47 ?_
    have h48 : x_tag M44 a45 = 2 + 10 := x_al_tag w46 w47
    change AW _ _ _ _ _ _ 3 19 _ _ _ _
    refine x_dup 67 dX4_init_67 rfl ?_
    obtain ⟨M49, e51, H⟩ := x_bv_of H
    refine x_callIN 68 37 [] [(.ref a45), (.int (0 : Int32)), (.ref (x_r M38 v0 0))] dX4_init_68 (ct_X2_init l e51) (List.mem_of_getElem? (i := 0) rfl) rfl rfl lk_120 h48 lk_87 lk_121 ⟨cn_X2_init, (by decide), by decide⟩ rfl (Nat.le_of_ble_eq_true rfl) (Nat.le_of_ble_eq_true rfl) (Nat.le_of_ble_eq_true rfl) (x_rv ?_)
    obtain ⟨h52, H⟩ := x_ckp H
    obtain ⟨h53, H⟩ := x_ckp H
    obtain ⟨M54, w55, H⟩ := x_lt_of H
    have h56 : x_at M54 (x_r M38 v0 0) 3 (0 : Int32) = true := by rw [w55]; exact h52
    have h57 : x_tag M54 (x_r M38 v0 0) = 3 := by rw [w55]; exact (x_at_1 h52)
    have h58 : x_tag M54 a45 = 2 + 10 := by rw [w55]; exact h53
    refine x_aast3' 71 dX4_init_71 h52 h53 w55 ?_
    refine x_iinc 72 1 ((0 : Int32) + (1 : Int32)) [some (.ref v0), some (.int ((0 : Int32) + (1 : Int32)))] dX4_init_72 rfl (congrArg (fun z : Int32 => (0 : Int32) + z) (show Int32.ofInt (1) = (1 : Int32) by decide)) rfl (Nat.le_of_ble_eq_true rfl) rfl ?_
    refine x_goto 75 50 dX4_init_75 (by decide) ?_
    refine x_iload_n 50 1 dX4_init_50 rfl rfl ?_
    refine x_aload_n 51 0 dX4_init_51 rfl rfl ?_
    obtain ⟨h59, H⟩ := x_ckp H
    refine x_getf 52 11 4 0 (.ref (x_r M54 v0 0)) dX4_init_52 lk_154 (by decide) (by decide) rfl (fun _ => rfl) h59 ?_
    obtain ⟨h60, H⟩ := x_ckp H
    refine x_alen 55 3 dX4_init_55 h60 (by decide) ?_
    refine x_icmp_ge 56 78 dX4_init_56 (by decide) (fun c61 => ?_) (fun c61 => ?_)
    · replace H := x_ifp c61 H
      cases H
      exact x_vret 78 dX4_init_78 rfl (Nat.le_of_ble_eq_true rfl) (Nat.le_of_ble_eq_true rfl) ⟨rfl, rfl⟩
    · replace H := x_ifn c61 H
      refine x_aload_n 59 0 dX4_init_59 rfl rfl ?_
      refine x_getf 60 11 4 0 (.ref (x_r M54 v0 0)) dX4_init_60 lk_154 (by decide) (by decide) rfl (fun _ => rfl) h59 ?_
      refine x_iload_n 63 1 dX4_init_63 rfl rfl ?_
      obtain ⟨a63, M62, w64, w65, H⟩ := x_al_of H
      refine x_newc' 64 9 2 dX4_init_64 (by decide) lk_116 lk_118 lk_87 (Nat.le_of_ble_eq_true rfl) (Nat.le_of_ble_eq_true rfl) w64 w65 ?_
      have h66 : x_tag M62 a63 = 2 + 10 := x_al_tag w64 w65
      change AW _ _ _ _ _ _ 4 24 _ _ _ _
      refine x_dup 67 dX4_init_67 rfl ?_
      obtain ⟨M67, e69, H⟩ := x_bv_of H
      refine x_callIN 68 37 [] [(.ref a63), (.int ((0 : Int32) + (1 : Int32))), (.ref (x_r M54 v0 0))] dX4_init_68 (ct_X2_init l e69) (List.mem_of_getElem? (i := 0) rfl) rfl rfl lk_120 h66 lk_87 lk_121 ⟨cn_X2_init, (by decide), by decide⟩ rfl (Nat.le_of_ble_eq_true rfl) (Nat.le_of_ble_eq_true rfl) (Nat.le_of_ble_eq_true rfl) (x_rv ?_)
      obtain ⟨h70, H⟩ := x_ckp H
      obtain ⟨h71, H⟩ := x_ckp H
      obtain ⟨M72, w73, H⟩ := x_lt_of H
      have h74 : x_at M72 (x_r M54 v0 0) 3 ((0 : Int32) + (1 : Int32)) = true := by rw [w73]; exact h70
      have h75 : x_tag M72 (x_r M54 v0 0) = 3 := by rw [w73]; exact (x_at_1 h70)
      have h76 : x_tag M72 a63 = 2 + 10 := by rw [w73]; exact h71
      refine x_aast3' 71 dX4_init_71 h70 h71 w73 ?_
      refine x_iinc 72 1 (((0 : Int32) + (1 : Int32)) + (1 : Int32)) [some (.ref v0), some (.int (((0 : Int32) + (1 : Int32)) + (1 : Int32)))] dX4_init_72 rfl (congrArg (fun z : Int32 => ((0 : Int32) + (1 : Int32)) + z) (show Int32.ofInt (1) = (1 : Int32) by decide)) rfl (Nat.le_of_ble_eq_true rfl) rfl ?_
      refine x_goto 75 50 dX4_init_75 (by decide) ?_
      refine x_iload_n 50 1 dX4_init_50 rfl rfl ?_
      refine x_aload_n 51 0 dX4_init_51 rfl rfl ?_
      obtain ⟨h77, H⟩ := x_ckp H
      refine x_getf 52 11 4 0 (.ref (x_r M72 v0 0)) dX4_init_52 lk_154 (by decide) (by decide) rfl (fun _ => rfl) h77 ?_
      obtain ⟨h78, H⟩ := x_ckp H
      refine x_alen 55 3 dX4_init_55 h78 (by decide) ?_
      refine x_icmp_ge 56 78 dX4_init_56 (by decide) (fun c79 => ?_) (fun c79 => ?_)
      · replace H := x_ifp c79 H
        cases H
        exact x_vret 78 dX4_init_78 rfl (Nat.le_of_ble_eq_true rfl) (Nat.le_of_ble_eq_true rfl) ⟨rfl, rfl⟩
      · replace H := x_ifn c79 H
        refine x_aload_n 59 0 dX4_init_59 rfl rfl ?_
        refine x_getf 60 11 4 0 (.ref (x_r M72 v0 0)) dX4_init_60 lk_154 (by decide) (by decide) rfl (fun _ => rfl) h77 ?_
        refine x_iload_n 63 1 dX4_init_63 rfl rfl ?_
        obtain ⟨a81, M80, w82, w83, H⟩ := x_al_of H
        refine x_newc' 64 9 2 dX4_init_64 (by decide) lk_116 lk_118 lk_87 (Nat.le_of_ble_eq_true rfl) (Nat.le_of_ble_eq_true rfl) w82 w83 ?_
        have h84 : x_tag M80 a81 = 2 + 10 := x_al_tag w82 w83
        change AW _ _ _ _ _ _ 5 29 _ _ _ _
        refine x_dup 67 dX4_init_67 rfl ?_
        obtain ⟨M85, e87, H⟩ := x_bv_of H
        refine x_callIN 68 37 [] [(.ref a81), (.int (((0 : Int32) + (1 : Int32)) + (1 : Int32))), (.ref (x_r M72 v0 0))] dX4_init_68 (ct_X2_init l e87) (List.mem_of_getElem? (i := 0) rfl) rfl rfl lk_120 h84 lk_87 lk_121 ⟨cn_X2_init, (by decide), by decide⟩ rfl (Nat.le_of_ble_eq_true rfl) (Nat.le_of_ble_eq_true rfl) (Nat.le_of_ble_eq_true rfl) (x_rv ?_)
        obtain ⟨h88, H⟩ := x_ckp H
        obtain ⟨h89, H⟩ := x_ckp H
        obtain ⟨M90, w91, H⟩ := x_lt_of H
        have h92 : x_at M90 (x_r M72 v0 0) 3 (((0 : Int32) + (1 : Int32)) + (1 : Int32)) = true := by rw [w91]; exact h88
        have h93 : x_tag M90 (x_r M72 v0 0) = 3 := by rw [w91]; exact (x_at_1 h88)
        have h94 : x_tag M90 a81 = 2 + 10 := by rw [w91]; exact h89
        refine x_aast3' 71 dX4_init_71 h88 h89 w91 ?_
        refine x_iinc 72 1 ((((0 : Int32) + (1 : Int32)) + (1 : Int32)) + (1 : Int32)) [some (.ref v0), some (.int ((((0 : Int32) + (1 : Int32)) + (1 : Int32)) + (1 : Int32)))] dX4_init_72 rfl (congrArg (fun z : Int32 => (((0 : Int32) + (1 : Int32)) + (1 : Int32)) + z) (show Int32.ofInt (1) = (1 : Int32) by decide)) rfl (Nat.le_of_ble_eq_true rfl) rfl ?_
        refine x_goto 75 50 dX4_init_75 (by decide) ?_
        refine x_iload_n 50 1 dX4_init_50 rfl rfl ?_
        refine x_aload_n 51 0 dX4_init_51 rfl rfl ?_
        obtain ⟨h95, H⟩ := x_ckp H
        refine x_getf 52 11 4 0 (.ref (x_r M90 v0 0)) dX4_init_52 lk_154 (by decide) (by decide) rfl (fun _ => rfl) h95 ?_
        obtain ⟨h96, H⟩ := x_ckp H
        refine x_alen 55 3 dX4_init_55 h96 (by decide) ?_
        refine x_icmp_ge 56 78 dX4_init_56 (by decide) (fun c97 => ?_) (fun c97 => ?_)
        · replace H := x_ifp c97 H
          cases H
          exact x_vret 78 dX4_init_78 rfl (Nat.le_of_ble_eq_true rfl) (Nat.le_of_ble_eq_true rfl) ⟨rfl, rfl⟩
        · replace H := x_ifn c97 H
          refine x_aload_n 59 0 dX4_init_59 rfl rfl ?_
          refine x_getf 60 11 4 0 (.ref (x_r M90 v0 0)) dX4_init_60 lk_154 (by decide) (by decide) rfl (fun _ => rfl) h95 ?_
          refine x_iload_n 63 1 dX4_init_63 rfl rfl ?_
          obtain ⟨a99, M98, w100, w101, H⟩ := x_al_of H
          refine x_newc' 64 9 2 dX4_init_64 (by decide) lk_116 lk_118 lk_87 (Nat.le_of_ble_eq_true rfl) (Nat.le_of_ble_eq_true rfl) w100 w101 ?_
          have h102 : x_tag M98 a99 = 2 + 10 := x_al_tag w100 w101
          change AW _ _ _ _ _ _ 6 34 _ _ _ _
          refine x_dup 67 dX4_init_67 rfl ?_
          obtain ⟨M103, e105, H⟩ := x_bv_of H
          refine x_callIN 68 37 [] [(.ref a99), (.int ((((0 : Int32) + (1 : Int32)) + (1 : Int32)) + (1 : Int32))), (.ref (x_r M90 v0 0))] dX4_init_68 (ct_X2_init l e105) (List.mem_of_getElem? (i := 0) rfl) rfl rfl lk_120 h102 lk_87 lk_121 ⟨cn_X2_init, (by decide), by decide⟩ rfl (Nat.le_of_ble_eq_true rfl) (Nat.le_of_ble_eq_true rfl) (Nat.le_of_ble_eq_true rfl) (x_rv ?_)
          obtain ⟨h106, H⟩ := x_ckp H
          obtain ⟨h107, H⟩ := x_ckp H
          obtain ⟨M108, w109, H⟩ := x_lt_of H
          have h110 : x_at M108 (x_r M90 v0 0) 3 ((((0 : Int32) + (1 : Int32)) + (1 : Int32)) + (1 : Int32)) = true := by rw [w109]; exact h106
          have h111 : x_tag M108 (x_r M90 v0 0) = 3 := by rw [w109]; exact (x_at_1 h106)
          have h112 : x_tag M108 a99 = 2 + 10 := by rw [w109]; exact h107
          refine x_aast3' 71 dX4_init_71 h106 h107 w109 ?_
          refine x_iinc 72 1 (((((0 : Int32) + (1 : Int32)) + (1 : Int32)) + (1 : Int32)) + (1 : Int32)) [some (.ref v0), some (.int (((((0 : Int32) + (1 : Int32)) + (1 : Int32)) + (1 : Int32)) + (1 : Int32)))] dX4_init_72 rfl (congrArg (fun z : Int32 => ((((0 : Int32) + (1 : Int32)) + (1 : Int32)) + (1 : Int32)) + z) (show Int32.ofInt (1) = (1 : Int32) by decide)) rfl (Nat.le_of_ble_eq_true rfl) rfl ?_
          refine x_goto 75 50 dX4_init_75 (by decide) ?_
          refine x_iload_n 50 1 dX4_init_50 rfl rfl ?_
          refine x_aload_n 51 0 dX4_init_51 rfl rfl ?_
          obtain ⟨h113, H⟩ := x_ckp H
          refine x_getf 52 11 4 0 (.ref (x_r M108 v0 0)) dX4_init_52 lk_154 (by decide) (by decide) rfl (fun _ => rfl) h113 ?_
          obtain ⟨h114, H⟩ := x_ckp H
          refine x_alen 55 3 dX4_init_55 h114 (by decide) ?_
          refine x_icmp_ge 56 78 dX4_init_56 (by decide) (fun c115 => ?_) (fun c115 => ?_)
          · replace H := x_ifp c115 H
            cases H
            exact x_vret 78 dX4_init_78 rfl (Nat.le_of_ble_eq_true rfl) (Nat.le_of_ble_eq_true rfl) ⟨rfl, rfl⟩
          · replace H := x_ifn c115 H
            refine x_aload_n 59 0 dX4_init_59 rfl rfl ?_
            refine x_getf 60 11 4 0 (.ref (x_r M108 v0 0)) dX4_init_60 lk_154 (by decide) (by decide) rfl (fun _ => rfl) h113 ?_
            refine x_iload_n 63 1 dX4_init_63 rfl rfl ?_
            obtain ⟨a117, M116, w118, w119, H⟩ := x_al_of H
            refine x_newc' 64 9 2 dX4_init_64 (by decide) lk_116 lk_118 lk_87 (Nat.le_of_ble_eq_true rfl) (Nat.le_of_ble_eq_true rfl) w118 w119 ?_
            have h120 : x_tag M116 a117 = 2 + 10 := x_al_tag w118 w119
            change AW _ _ _ _ _ _ 7 39 _ _ _ _
            refine x_dup 67 dX4_init_67 rfl ?_
            obtain ⟨M121, e123, H⟩ := x_bv_of H
            refine x_callIN 68 37 [] [(.ref a117), (.int (((((0 : Int32) + (1 : Int32)) + (1 : Int32)) + (1 : Int32)) + (1 : Int32))), (.ref (x_r M108 v0 0))] dX4_init_68 (ct_X2_init l e123) (List.mem_of_getElem? (i := 0) rfl) rfl rfl lk_120 h120 lk_87 lk_121 ⟨cn_X2_init, (by decide), by decide⟩ rfl (Nat.le_of_ble_eq_true rfl) (Nat.le_of_ble_eq_true rfl) (Nat.le_of_ble_eq_true rfl) (x_rv ?_)
            obtain ⟨h124, H⟩ := x_ckp H
            obtain ⟨h125, H⟩ := x_ckp H
            obtain ⟨M126, w127, H⟩ := x_lt_of H
            have h128 : x_at M126 (x_r M108 v0 0) 3 (((((0 : Int32) + (1 : Int32)) + (1 : Int32)) + (1 : Int32)) + (1 : Int32)) = true := by rw [w127]; exact h124
            have h129 : x_tag M126 (x_r M108 v0 0) = 3 := by rw [w127]; exact (x_at_1 h124)
            have h130 : x_tag M126 a117 = 2 + 10 := by rw [w127]; exact h125
            refine x_aast3' 71 dX4_init_71 h124 h125 w127 ?_
            refine x_iinc 72 1 ((((((0 : Int32) + (1 : Int32)) + (1 : Int32)) + (1 : Int32)) + (1 : Int32)) + (1 : Int32)) [some (.ref v0), some (.int ((((((0 : Int32) + (1 : Int32)) + (1 : Int32)) + (1 : Int32)) + (1 : Int32)) + (1 : Int32)))] dX4_init_72 rfl (congrArg (fun z : Int32 => (((((0 : Int32) + (1 : Int32)) + (1 : Int32)) + (1 : Int32)) + (1 : Int32)) + z) (show Int32.ofInt (1) = (1 : Int32) by decide)) rfl (Nat.le_of_ble_eq_true rfl) rfl ?_
            refine x_goto 75 50 dX4_init_75 (by decide) ?_
            refine x_iload_n 50 1 dX4_init_50 rfl rfl ?_
            refine x_aload_n 51 0 dX4_init_51 rfl rfl ?_
            obtain ⟨h131, H⟩ := x_ckp H
            refine x_getf 52 11 4 0 (.ref (x_r M126 v0 0)) dX4_init_52 lk_154 (by decide) (by decide) rfl (fun _ => rfl) h131 ?_
            obtain ⟨h132, H⟩ := x_ckp H
            refine x_alen 55 3 dX4_init_55 h132 (by decide) ?_
            refine x_icmp_ge 56 78 dX4_init_56 (by decide) (fun c133 => ?_) (fun c133 => ?_)
            · replace H := x_ifp c133 H
              cases H
              exact x_vret 78 dX4_init_78 rfl (Nat.le_of_ble_eq_true rfl) (Nat.le_of_ble_eq_true rfl) ⟨rfl, rfl⟩
            · replace H := x_ifn c133 H
              refine x_aload_n 59 0 dX4_init_59 rfl rfl ?_
              refine x_getf 60 11 4 0 (.ref (x_r M126 v0 0)) dX4_init_60 lk_154 (by decide) (by decide) rfl (fun _ => rfl) h131 ?_
              refine x_iload_n 63 1 dX4_init_63 rfl rfl ?_
              obtain ⟨a135, M134, w136, w137, H⟩ := x_al_of H
              refine x_newc' 64 9 2 dX4_init_64 (by decide) lk_116 lk_118 lk_87 (Nat.le_of_ble_eq_true rfl) (Nat.le_of_ble_eq_true rfl) w136 w137 ?_
              have h138 : x_tag M134 a135 = 2 + 10 := x_al_tag w136 w137
              change AW _ _ _ _ _ _ 8 44 _ _ _ _
              refine x_dup 67 dX4_init_67 rfl ?_
              obtain ⟨M139, e141, H⟩ := x_bv_of H
              refine x_callIN 68 37 [] [(.ref a135), (.int ((((((0 : Int32) + (1 : Int32)) + (1 : Int32)) + (1 : Int32)) + (1 : Int32)) + (1 : Int32))), (.ref (x_r M126 v0 0))] dX4_init_68 (ct_X2_init l e141) (List.mem_of_getElem? (i := 0) rfl) rfl rfl lk_120 h138 lk_87 lk_121 ⟨cn_X2_init, (by decide), by decide⟩ rfl (Nat.le_of_ble_eq_true rfl) (Nat.le_of_ble_eq_true rfl) (Nat.le_of_ble_eq_true rfl) (x_rv ?_)
              obtain ⟨h142, H⟩ := x_ckp H
              obtain ⟨h143, H⟩ := x_ckp H
              obtain ⟨M144, w145, H⟩ := x_lt_of H
              have h146 : x_at M144 (x_r M126 v0 0) 3 ((((((0 : Int32) + (1 : Int32)) + (1 : Int32)) + (1 : Int32)) + (1 : Int32)) + (1 : Int32)) = true := by rw [w145]; exact h142
              have h147 : x_tag M144 (x_r M126 v0 0) = 3 := by rw [w145]; exact (x_at_1 h142)
              have h148 : x_tag M144 a135 = 2 + 10 := by rw [w145]; exact h143
              refine x_aast3' 71 dX4_init_71 h142 h143 w145 ?_
              refine x_iinc 72 1 (((((((0 : Int32) + (1 : Int32)) + (1 : Int32)) + (1 : Int32)) + (1 : Int32)) + (1 : Int32)) + (1 : Int32)) [some (.ref v0), some (.int (((((((0 : Int32) + (1 : Int32)) + (1 : Int32)) + (1 : Int32)) + (1 : Int32)) + (1 : Int32)) + (1 : Int32)))] dX4_init_72 rfl (congrArg (fun z : Int32 => ((((((0 : Int32) + (1 : Int32)) + (1 : Int32)) + (1 : Int32)) + (1 : Int32)) + (1 : Int32)) + z) (show Int32.ofInt (1) = (1 : Int32) by decide)) rfl (Nat.le_of_ble_eq_true rfl) rfl ?_
              refine x_goto 75 50 dX4_init_75 (by decide) ?_
              refine x_iload_n 50 1 dX4_init_50 rfl rfl ?_
              refine x_aload_n 51 0 dX4_init_51 rfl rfl ?_
              obtain ⟨h149, H⟩ := x_ckp H
              refine x_getf 52 11 4 0 (.ref (x_r M144 v0 0)) dX4_init_52 lk_154 (by decide) (by decide) rfl (fun _ => rfl) h149 ?_
              obtain ⟨h150, H⟩ := x_ckp H
              refine x_alen 55 3 dX4_init_55 h150 (by decide) ?_
              refine x_icmp_ge 56 78 dX4_init_56 (by decide) (fun c151 => ?_) (fun c151 => ?_)
              · replace H := x_ifp c151 H
                cases H
                exact x_vret 78 dX4_init_78 rfl (Nat.le_of_ble_eq_true rfl) (Nat.le_of_ble_eq_true rfl) ⟨rfl, rfl⟩
              · replace H := x_ifn c151 H
                refine x_aload_n 59 0 dX4_init_59 rfl rfl ?_
                refine x_getf 60 11 4 0 (.ref (x_r M144 v0 0)) dX4_init_60 lk_154 (by decide) (by decide) rfl (fun _ => rfl) h149 ?_
                refine x_iload_n 63 1 dX4_init_63 rfl rfl ?_
                obtain ⟨a153, M152, w154, w155, H⟩ := x_al_of H
                refine x_newc' 64 9 2 dX4_init_64 (by decide) lk_116 lk_118 lk_87 (Nat.le_of_ble_eq_true rfl) (Nat.le_of_ble_eq_true rfl) w154 w155 ?_
                have h156 : x_tag M152 a153 = 2 + 10 := x_al_tag w154 w155
                change AW _ _ _ _ _ _ 9 49 _ _ _ _
                refine x_dup 67 dX4_init_67 rfl ?_
                obtain ⟨M157, e159, H⟩ := x_bv_of H
                refine x_callIN 68 37 [] [(.ref a153), (.int (((((((0 : Int32) + (1 : Int32)) + (1 : Int32)) + (1 : Int32)) + (1 : Int32)) + (1 : Int32)) + (1 : Int32))), (.ref (x_r M144 v0 0))] dX4_init_68 (ct_X2_init l e159) (List.mem_of_getElem? (i := 0) rfl) rfl rfl lk_120 h156 lk_87 lk_121 ⟨cn_X2_init, (by decide), by decide⟩ rfl (Nat.le_of_ble_eq_true rfl) (Nat.le_of_ble_eq_true rfl) (Nat.le_of_ble_eq_true rfl) (x_rv ?_)
                obtain ⟨h160, H⟩ := x_ckp H
                obtain ⟨h161, H⟩ := x_ckp H
                obtain ⟨M162, w163, H⟩ := x_lt_of H
                have h164 : x_at M162 (x_r M144 v0 0) 3 (((((((0 : Int32) + (1 : Int32)) + (1 : Int32)) + (1 : Int32)) + (1 : Int32)) + (1 : Int32)) + (1 : Int32)) = true := by rw [w163]; exact h160
                have h165 : x_tag M162 (x_r M144 v0 0) = 3 := by rw [w163]; exact (x_at_1 h160)
                have h166 : x_tag M162 a153 = 2 + 10 := by rw [w163]; exact h161
                refine x_aast3' 71 dX4_init_71 h160 h161 w163 ?_
                refine x_iinc 72 1 ((((((((0 : Int32) + (1 : Int32)) + (1 : Int32)) + (1 : Int32)) + (1 : Int32)) + (1 : Int32)) + (1 : Int32)) + (1 : Int32)) [some (.ref v0), some (.int ((((((((0 : Int32) + (1 : Int32)) + (1 : Int32)) + (1 : Int32)) + (1 : Int32)) + (1 : Int32)) + (1 : Int32)) + (1 : Int32)))] dX4_init_72 rfl (congrArg (fun z : Int32 => (((((((0 : Int32) + (1 : Int32)) + (1 : Int32)) + (1 : Int32)) + (1 : Int32)) + (1 : Int32)) + (1 : Int32)) + z) (show Int32.ofInt (1) = (1 : Int32) by decide)) rfl (Nat.le_of_ble_eq_true rfl) rfl ?_
                refine x_goto 75 50 dX4_init_75 (by decide) ?_
                cases H

theorem ct_X4_init (l : Launch) {v0 : Nat} {M : XM} {q : XM} (H : f_X4_init v0 M = some q) : Ct l m_X4_init 2 9 49 [(.ref v0)] M (x_Rv q) := x_met l m_X4_init 2 9 49 [(.ref v0)] M (x_Rv q) _ rfl rfl (Nat.le_of_ble_eq_true rfl) (t_X4_init l H)
theorem lk_159 : Cond.fieldLink RX4 42 RX4 "count" "I" ∈ x_TB := x_tb (k := 159) (by decide +kernel) rfl
theorem lk_179 : Cond.fieldLink RX4 45 RX4 "tallyCount" "I" ∈ x_TB := x_tb (k := 179) (by decide +kernel) rfl
theorem lk_181 : Cond.fieldLink RX4 48 RX4 "done" "I" ∈ x_TB := x_tb (k := 181) (by decide +kernel) rfl
theorem lk_575 : Cond.code yX2_becomeLike cX2_becomeLike 2 none ∈ x_TB := x_tb (k := 575) (by decide +kernel) rfl
theorem lk_572 : Cond.methodLink RX4 38 yX2_becomeLike ∈ x_TB := x_tb (k := 572) (by decide +kernel) rfl
theorem lk_574 : Cond.selects RX2 yX2_becomeLike yX2_becomeLike ∈ x_TB := x_tb (k := 574) (by decide +kernel) rfl
theorem lk_573 : Cond.instanceMethod yX2_becomeLike ∈ x_TB := x_tb (k := 573) (by decide +kernel) rfl
abbrev m_X4_becomeLike : XU := (yX4_becomeLike, cX4_becomeLike, 3, none)
theorem cn_X4_becomeLike : m_X4_becomeLike.1.cls ≠ "java/lang/invoke/MethodHandle" ∧ m_X4_becomeLike.1.cls ≠ "java/lang/invoke/VarHandle" ∧ (parseMethodDescriptor m_X4_becomeLike.1.desc).map (fun q => q.parameters.length) = some 1 := by decide +kernel
def bd_X4_becomeLike_74 (κ74 : Nat → Nat → Int32 → XM → Option XM) (v0 : Nat) (v1 : Nat) (v2 : Int32) (M : XM) : Option XM :=
  if x_tag M v0 = 4 + 10 then (if x_tag M (x_r M v0 6) = 1 then (if (Int32.ofNat (x_len M (x_r M v0 6))) ≤ v2 then (if x_tag M v1 = 4 + 10 then (x_lt (x_wi M v0 7 (x_i M v1 7)) (fun M34 => x_lt (x_wi M34 v0 8 (x_i M34 v1 8)) (fun M39 => x_lt (x_wi M39 v0 9 (x_i M39 v1 9)) (fun M44 => some M44)))) else none) else (if x_tag M v1 = 4 + 10 then (if x_at M (x_r M v1 6) 1 v2 = true then (if x_at M (x_r M v0 6) 1 v2 = true then (x_lt (x_wi M (x_r M v0 6) v2.toNatClampNeg (x_i M (x_r M v1 6) v2.toNatClampNeg)) (fun M52 => κ74 v0 v1 (v2 + (1 : Int32)) M52)) else none) else none) else none)) else none) else none
set_option maxRecDepth 20000 in
set_option maxHeartbeats 4000000 in
theorem tb_X4_becomeLike_74 (l : Launch) {κ74 : Nat → Nat → Int32 → XM → Option XM} {v0 : Nat} {v1 : Nat} {v2 : Int32} {M : XM} {q : XM} (hκ74 : ∀ (v0 : Nat) (v1 : Nat) (v2 : Int32) (M : XM), κ74 v0 v1 v2 M = some q → AW l m_X4_becomeLike 2 0 0 (x_Rv q) 0 0 74 [some (.ref v0), some (.ref v1), some (.int v2)] [] M) (H : bd_X4_becomeLike_74 κ74 v0 v1 v2 M = some q) : AW l m_X4_becomeLike 2 0 0 (x_Rv q) 0 0 74 [some (.ref v0), some (.ref v1), some (.int v2)] [] M := by
  unfold bd_X4_becomeLike_74 at H
  refine x_iload_n 74 2 dX4_becomeLike_74 rfl rfl ?_
  refine x_aload_n 75 0 dX4_becomeLike_75 rfl rfl ?_
  obtain ⟨h30, H⟩ := x_ckp H
  refine x_getf 76 30 4 6 (.ref (x_r M v0 6)) dX4_becomeLike_76 lk_177 (by decide) (by decide) rfl (fun _ => rfl) h30 ?_
  obtain ⟨h31, H⟩ := x_ckp H
  refine x_alen 79 1 dX4_becomeLike_79 h31 (by decide) ?_
  refine x_icmp_ge 80 101 dX4_becomeLike_80 (by decide) (fun c32 => ?_) (fun c32 => ?_)
  · replace H := x_ifp c32 H
    refine x_aload_n 101 0 dX4_becomeLike_101 rfl rfl ?_
    refine x_aload_n 102 1 dX4_becomeLike_102 rfl rfl ?_
    obtain ⟨h33, H⟩ := x_ckp H
    refine x_getf 103 45 4 7 (.int (x_i M v1 7)) dX4_becomeLike_103 lk_179 (by decide) (by decide) rfl (fun _ => rfl) h33 ?_
    obtain ⟨M34, w35, H⟩ := x_lt_of H
    have h36 : x_tag M34 v0 = 4 + 10 := by rw [w35]; exact h30
    have h37 : x_tag M34 (x_r M v0 6) = 1 := by rw [w35]; exact h31
    have h38 : x_tag M34 v1 = 4 + 10 := by rw [w35]; exact h33
    refine x_putI' 106 45 4 7 dX4_becomeLike_106 lk_179 (by decide) (by decide) rfl (Or.inl rfl) (Or.inl rfl) h30 w35 ?_
    refine x_aload_n 109 0 dX4_becomeLike_109 rfl rfl ?_
    refine x_aload_n 110 1 dX4_becomeLike_110 rfl rfl ?_
    refine x_getf 111 48 4 8 (.int (x_i M34 v1 8)) dX4_becomeLike_111 lk_181 (by decide) (by decide) rfl (fun _ => rfl) h38 ?_
    obtain ⟨M39, w40, H⟩ := x_lt_of H
    have h41 : x_tag M39 v0 = 4 + 10 := by rw [w40]; exact h36
    have h42 : x_tag M39 (x_r M v0 6) = 1 := by rw [w40]; exact h37
    have h43 : x_tag M39 v1 = 4 + 10 := by rw [w40]; exact h38
    refine x_putI' 114 48 4 8 dX4_becomeLike_114 lk_181 (by decide) (by decide) rfl (Or.inl rfl) (Or.inl rfl) h36 w40 ?_
    refine x_aload_n 117 0 dX4_becomeLike_117 rfl rfl ?_
    refine x_aload_n 118 1 dX4_becomeLike_118 rfl rfl ?_
    refine x_getf 119 34 4 9 (.int (x_i M39 v1 9)) dX4_becomeLike_119 lk_183 (by decide) (by decide) rfl (fun _ => rfl) h43 ?_
    obtain ⟨M44, w45, H⟩ := x_lt_of H
    have h46 : x_tag M44 v0 = 4 + 10 := by rw [w45]; exact h41
    have h47 : x_tag M44 (x_r M v0 6) = 1 := by rw [w45]; exact h42
    have h48 : x_tag M44 v1 = 4 + 10 := by rw [w45]; exact h43
    refine x_putI' 122 34 4 9 dX4_becomeLike_122 lk_183 (by decide) (by decide) rfl (Or.inl rfl) (Or.inl rfl) h41 w45 ?_
    cases H
    exact x_vret 125 dX4_becomeLike_125 rfl (Nat.le_of_ble_eq_true rfl) (Nat.le_of_ble_eq_true rfl) ⟨rfl, rfl⟩
  · replace H := x_ifn c32 H
    refine x_aload_n 83 0 dX4_becomeLike_83 rfl rfl ?_
    refine x_getf 84 30 4 6 (.ref (x_r M v0 6)) dX4_becomeLike_84 lk_177 (by decide) (by decide) rfl (fun _ => rfl) h30 ?_
    refine x_iload_n 87 2 dX4_becomeLike_87 rfl rfl ?_
    refine x_aload_n 88 1 dX4_becomeLike_88 rfl rfl ?_
    obtain ⟨h49, H⟩ := x_ckp H
    refine x_getf 89 30 4 6 (.ref (x_r M v1 6)) dX4_becomeLike_89 lk_177 (by decide) (by decide) rfl (fun _ => rfl) h49 ?_
    refine x_iload_n 92 2 dX4_becomeLike_92 rfl rfl ?_
    obtain ⟨h50, H⟩ := x_ckp H
    refine x_iald 93 dX4_becomeLike_93 h50 ?_
    obtain ⟨h51, H⟩ := x_ckp H
    obtain ⟨M52, w53, H⟩ := x_lt_of H
    have h54 : x_tag M52 v0 = 4 + 10 := by rw [w53]; exact h30
    have h55 : x_tag M52 (x_r M v0 6) = 1 := by rw [w53]; exact h31
    have h56 : x_tag M52 v1 = 4 + 10 := by rw [w53]; exact h49
    have h57 : x_at M52 (x_r M v1 6) 1 v2 = true := by rw [w53]; exact h50
    have h58 : x_tag M52 (x_r M v1 6) = 1 := by rw [w53]; exact (x_at_1 h50)
    have h59 : x_at M52 (x_r M v0 6) 1 v2 = true := by rw [w53]; exact h51
    refine x_iast' 94 dX4_becomeLike_94 h51 w53 ?_
    refine x_iinc 95 2 (v2 + (1 : Int32)) [some (.ref v0), some (.ref v1), some (.int (v2 + (1 : Int32)))] dX4_becomeLike_95 rfl (congrArg (fun z : Int32 => v2 + z) (show Int32.ofInt (1) = (1 : Int32) by decide)) rfl (Nat.le_of_ble_eq_true rfl) rfl ?_
    refine x_goto 98 74 dX4_becomeLike_98 (by decide) ?_
    exact hκ74 _ _ _ _ H

def lp_X4_becomeLike_74 (n : Nat) : Nat → Nat → Int32 → XM → Option XM := x_rec (fun _ _ _ _ => none) (bd_X4_becomeLike_74) n
theorem t_X4_becomeLike_74 (l : Launch) {q : XM} : ∀ (n : Nat) (v0 : Nat) (v1 : Nat) (v2 : Int32) (M : XM), lp_X4_becomeLike_74 n v0 v1 v2 M = some q → AW l m_X4_becomeLike 2 0 0 (x_Rv q) 0 0 74 [some (.ref v0), some (.ref v1), some (.int v2)] [] M := by
  intro n
  induction n with
  | zero => intro v0 v1 v2 M H; cases H
  | succ n ih => intro v0 v1 v2 M H; exact tb_X4_becomeLike_74 l ih H
def bd_X4_becomeLike_2 (κ2 : Nat → Nat → Int32 → XM → Option XM) (v0 : Nat) (v1 : Nat) (v2 : Int32) (M : XM) : Option XM :=
  if x_tag M v0 = 4 + 10 then (if x_tag M (x_r M v0 0) = 3 then (if (Int32.ofNat (x_len M (x_r M v0 0))) ≤ v2 then (if x_tag M v1 = 4 + 10 then (x_lt (x_wi M v0 1 (x_i M v1 1)) (fun M5 => x_lt (x_wi M5 v0 2 (x_i M5 v1 2)) (fun M10 => x_lt (x_wi M10 v0 3 (x_i M10 v1 3)) (fun M15 => x_lt (x_wi M15 v0 4 (x_i M15 v1 4)) (fun M20 => x_lt (x_wi M20 v0 5 (x_i M20 v1 5)) (fun M25 => lp_X4_becomeLike_74 x_fuel v0 v1 (0 : Int32) M25)))))) else none) else (if x_at M (x_r M v0 0) 3 v2 = true then (if x_tag M v1 = 4 + 10 then (if x_at M (x_r M v1 0) 3 v2 = true then (if x_tag M (x_r M (x_r M v0 0) v2.toNatClampNeg) = 2 + 10 then (x_bv (f_X2_becomeLike (x_r M (x_r M v0 0) v2.toNatClampNeg) (x_r M (x_r M v1 0) v2.toNatClampNeg) M) (fun M64 => κ2 v0 v1 (v2 + (1 : Int32)) M64)) else none) else none) else none) else none)) else none) else none
set_option maxRecDepth 20000 in
set_option maxHeartbeats 4000000 in
theorem tb_X4_becomeLike_2 (l : Launch) {κ2 : Nat → Nat → Int32 → XM → Option XM} {v0 : Nat} {v1 : Nat} {v2 : Int32} {M : XM} {q : XM} (hκ2 : ∀ (v0 : Nat) (v1 : Nat) (v2 : Int32) (M : XM), κ2 v0 v1 v2 M = some q → AW l m_X4_becomeLike 2 0 0 (x_Rv q) 0 0 2 [some (.ref v0), some (.ref v1), some (.int v2)] [] M) (H : bd_X4_becomeLike_2 κ2 v0 v1 v2 M = some q) : AW l m_X4_becomeLike 2 0 0 (x_Rv q) 0 0 2 [some (.ref v0), some (.ref v1), some (.int v2)] [] M := by
  unfold bd_X4_becomeLike_2 at H
  refine x_iload_n 2 2 dX4_becomeLike_2 rfl rfl ?_
  refine x_aload_n 3 0 dX4_becomeLike_3 rfl rfl ?_
  obtain ⟨h1, H⟩ := x_ckp H
  refine x_getf 4 11 4 0 (.ref (x_r M v0 0)) dX4_becomeLike_4 lk_154 (by decide) (by decide) rfl (fun _ => rfl) h1 ?_
  obtain ⟨h2, H⟩ := x_ckp H
  refine x_alen 7 3 dX4_becomeLike_7 h2 (by decide) ?_
  refine x_icmp_ge 8 32 dX4_becomeLike_8 (by decide) (fun c3 => ?_) (fun c3 => ?_)
  · replace H := x_ifp c3 H
    refine x_aload_n 32 0 dX4_becomeLike_32 rfl rfl ?_
    refine x_aload_n 33 1 dX4_becomeLike_33 rfl rfl ?_
    obtain ⟨h4, H⟩ := x_ckp H
    refine x_getf 34 42 4 1 (.int (x_i M v1 1)) dX4_becomeLike_34 lk_159 (by decide) (by decide) rfl (fun _ => rfl) h4 ?_
    obtain ⟨M5, w6, H⟩ := x_lt_of H
    have h7 : x_tag M5 v0 = 4 + 10 := by rw [w6]; exact h1
    have h8 : x_tag M5 (x_r M v0 0) = 3 := by rw [w6]; exact h2
    have h9 : x_tag M5 v1 = 4 + 10 := by rw [w6]; exact h4
    refine x_putI' 37 42 4 1 dX4_becomeLike_37 lk_159 (by decide) (by decide) rfl (Or.inl rfl) (Or.inl rfl) h1 w6 ?_
    refine x_aload_n 40 0 dX4_becomeLike_40 rfl rfl ?_
    refine x_aload_n 41 1 dX4_becomeLike_41 rfl rfl ?_
    refine x_getf 42 17 4 2 (.int (x_i M5 v1 2)) dX4_becomeLike_42 lk_162 (by decide) (by decide) rfl (fun _ => rfl) h9 ?_
    obtain ⟨M10, w11, H⟩ := x_lt_of H
    have h12 : x_tag M10 v0 = 4 + 10 := by rw [w11]; exact h7
    have h13 : x_tag M10 (x_r M v0 0) = 3 := by rw [w11]; exact h8
    have h14 : x_tag M10 v1 = 4 + 10 := by rw [w11]; exact h9
    refine x_putI' 45 17 4 2 dX4_becomeLike_45 lk_162 (by decide) (by decide) rfl (Or.inl rfl) (Or.inl rfl) h7 w11 ?_
    refine x_aload_n 48 0 dX4_becomeLike_48 rfl rfl ?_
    refine x_aload_n 49 1 dX4_becomeLike_49 rfl rfl ?_
    refine x_getf 50 21 4 3 (.int (x_i M10 v1 3)) dX4_becomeLike_50 lk_167 (by decide) (by decide) rfl (fun _ => rfl) h14 ?_
    obtain ⟨M15, w16, H⟩ := x_lt_of H
    have h17 : x_tag M15 v0 = 4 + 10 := by rw [w16]; exact h12
    have h18 : x_tag M15 (x_r M v0 0) = 3 := by rw [w16]; exact h13
    have h19 : x_tag M15 v1 = 4 + 10 := by rw [w16]; exact h14
    refine x_putI' 53 21 4 3 dX4_becomeLike_53 lk_167 (by decide) (by decide) rfl (Or.inl rfl) (Or.inl rfl) h12 w16 ?_
    refine x_aload_n 56 0 dX4_becomeLike_56 rfl rfl ?_
    refine x_aload_n 57 1 dX4_becomeLike_57 rfl rfl ?_
    refine x_getf 58 24 4 4 (.int (x_i M15 v1 4)) dX4_becomeLike_58 lk_172 (by decide) (by decide) rfl (fun _ => rfl) h19 ?_
    obtain ⟨M20, w21, H⟩ := x_lt_of H
    have h22 : x_tag M20 v0 = 4 + 10 := by rw [w21]; exact h17
    have h23 : x_tag M20 (x_r M v0 0) = 3 := by rw [w21]; exact h18
    have h24 : x_tag M20 v1 = 4 + 10 := by rw [w21]; exact h19
    refine x_putI' 61 24 4 4 dX4_becomeLike_61 lk_172 (by decide) (by decide) rfl (Or.inl rfl) (Or.inl rfl) h17 w21 ?_
    refine x_aload_n 64 0 dX4_becomeLike_64 rfl rfl ?_
    refine x_aload_n 65 1 dX4_becomeLike_65 rfl rfl ?_
    refine x_getf 66 27 4 5 (.int (x_i M20 v1 5)) dX4_becomeLike_66 lk_175 (by decide) (by decide) rfl (fun _ => rfl) h24 ?_
    obtain ⟨M25, w26, H⟩ := x_lt_of H
    have h27 : x_tag M25 v0 = 4 + 10 := by rw [w26]; exact h22
    have h28 : x_tag M25 (x_r M v0 0) = 3 := by rw [w26]; exact h23
    have h29 : x_tag M25 v1 = 4 + 10 := by rw [w26]; exact h24
    refine x_putI' 69 27 4 5 dX4_becomeLike_69 lk_175 (by decide) (by decide) rfl (Or.inl rfl) (Or.inl rfl) h22 w26 ?_
    refine x_iconst 72 (0 : Int32) dX4_becomeLike_72 (by decide) ?_
    refine x_istore_n 73 2 [some (.ref v0), some (.ref v1), some (.int (0 : Int32))] dX4_becomeLike_73 rfl rfl (Nat.le_of_ble_eq_true rfl) rfl ?_
    exact t_X4_becomeLike_74 l _ _ _ _ _ H
  · replace H := x_ifn c3 H
    refine x_aload_n 11 0 dX4_becomeLike_11 rfl rfl ?_
    refine x_getf 12 11 4 0 (.ref (x_r M v0 0)) dX4_becomeLike_12 lk_154 (by decide) (by decide) rfl (fun _ => rfl) h1 ?_
    refine x_iload_n 15 2 dX4_becomeLike_15 rfl rfl ?_
    obtain ⟨h60, H⟩ := x_ckp H
    refine x_aald3 16 dX4_becomeLike_16 h60 ?_
    refine x_aload_n 17 1 dX4_becomeLike_17 rfl rfl ?_
    obtain ⟨h61, H⟩ := x_ckp H
    refine x_getf 18 11 4 0 (.ref (x_r M v1 0)) dX4_becomeLike_18 lk_154 (by decide) (by decide) rfl (fun _ => rfl) h61 ?_
    refine x_iload_n 21 2 dX4_becomeLike_21 rfl rfl ?_
    obtain ⟨h62, H⟩ := x_ckp H
    refine x_aald3 22 dX4_becomeLike_22 h62 ?_
    obtain ⟨h63, H⟩ := x_ckp H
    obtain ⟨M64, e66, H⟩ := x_bv_of H
    refine x_callV 23 38 2 [(.ref (x_r M (x_r M v1 0) v2.toNatClampNeg))] [] dX4_becomeLike_23 (ct_X2_becomeLike l e66) lk_572 lk_573 lk_574 (by decide) h63 lk_87 lk_575 ⟨cn_X2_becomeLike, (by decide), by decide⟩ rfl (Nat.le_of_ble_eq_true rfl) (Nat.le_of_ble_eq_true rfl) (Nat.le_of_ble_eq_true rfl) (x_rv ?_)
    refine x_iinc 26 2 (v2 + (1 : Int32)) [some (.ref v0), some (.ref v1), some (.int (v2 + (1 : Int32)))] dX4_becomeLike_26 rfl (congrArg (fun z : Int32 => v2 + z) (show Int32.ofInt (1) = (1 : Int32) by decide)) rfl (Nat.le_of_ble_eq_true rfl) rfl ?_
    refine x_goto 29 2 dX4_becomeLike_29 (by decide) ?_
    exact hκ2 _ _ _ _ H

def lp_X4_becomeLike_2 (n : Nat) : Nat → Nat → Int32 → XM → Option XM := x_rec (fun _ _ _ _ => none) (bd_X4_becomeLike_2) n
theorem t_X4_becomeLike_2 (l : Launch) {q : XM} : ∀ (n : Nat) (v0 : Nat) (v1 : Nat) (v2 : Int32) (M : XM), lp_X4_becomeLike_2 n v0 v1 v2 M = some q → AW l m_X4_becomeLike 2 0 0 (x_Rv q) 0 0 2 [some (.ref v0), some (.ref v1), some (.int v2)] [] M := by
  intro n
  induction n with
  | zero => intro v0 v1 v2 M H; cases H
  | succ n ih => intro v0 v1 v2 M H; exact tb_X4_becomeLike_2 l ih H
def f_X4_becomeLike (v0 : Nat) (v1 : Nat) (M : XM) : Option XM :=
  lp_X4_becomeLike_2 x_fuel v0 v1 (0 : Int32) M
set_option maxRecDepth 20000 in
set_option maxHeartbeats 4000000 in
theorem t_X4_becomeLike (l : Launch) {v0 : Nat} {v1 : Nat} {M : XM} {q : XM} (H : f_X4_becomeLike v0 v1 M = some q) : AW l m_X4_becomeLike 2 0 0 (x_Rv q) 0 0 0 [some (.ref v0), some (.ref v1), none] [] M := by
  unfold f_X4_becomeLike at H
  refine x_iconst 0 (0 : Int32) dX4_becomeLike_0 (by decide) ?_
  refine x_istore_n 1 2 [some (.ref v0), some (.ref v1), some (.int (0 : Int32))] dX4_becomeLike_1 rfl rfl (Nat.le_of_ble_eq_true rfl) rfl ?_
  exact t_X4_becomeLike_2 l _ _ _ _ _ H

theorem ct_X4_becomeLike (l : Launch) {v0 : Nat} {v1 : Nat} {M : XM} {q : XM} (H : f_X4_becomeLike v0 v1 M = some q) : Ct l m_X4_becomeLike 2 0 0 [(.ref v0), (.ref v1)] M (x_Rv q) := x_met l m_X4_becomeLike 2 0 0 [(.ref v0), (.ref v1)] M (x_Rv q) _ rfl rfl (Nat.le_of_ble_eq_true rfl) (t_X4_becomeLike l H)
abbrev m_X4_hasRoomForCounter : XU := (yX4_hasRoomForCounter, cX4_hasRoomForCounter, 1, (some .boolean))
theorem cn_X4_hasRoomForCounter : m_X4_hasRoomForCounter.1.cls ≠ "java/lang/invoke/MethodHandle" ∧ m_X4_hasRoomForCounter.1.cls ≠ "java/lang/invoke/VarHandle" ∧ (parseMethodDescriptor m_X4_hasRoomForCounter.1.desc).map (fun q => q.parameters.length) = some 0 := by decide +kernel
def f_X4_hasRoomForCounter (v0 : Nat) (M : XM) : Option (Int32 × XM) :=
  if x_tag M v0 = 4 + 10 then (if x_tag M (x_r M v0 0) = 3 then (if (Int32.ofNat (x_len M (x_r M v0 0))) ≤ (x_i M v0 1) then (some ((0 : Int32), M)) else (some ((1 : Int32), M))) else none) else none
set_option maxRecDepth 20000 in
set_option maxHeartbeats 4000000 in
theorem t_X4_hasRoomForCounter (l : Launch) {v0 : Nat} {M : XM} {q : Int32 × XM} (H : f_X4_hasRoomForCounter v0 M = some q) : AW l m_X4_hasRoomForCounter 1 0 0 (x_Ri q) 0 0 0 [some (.ref v0)] [] M := by
  unfold f_X4_hasRoomForCounter at H
  refine x_aload_n 0 0 dX4_hasRoomForCounter_0 rfl rfl ?_
  obtain ⟨h1, H⟩ := x_ckp H
  refine x_getf 1 42 4 1 (.int (x_i M v0 1)) dX4_hasRoomForCounter_1 lk_159 (by decide) (by decide) rfl (fun _ => rfl) h1 ?_
  refine x_aload_n 4 0 dX4_hasRoomForCounter_4 rfl rfl ?_
  refine x_getf 5 11 4 0 (.ref (x_r M v0 0)) dX4_hasRoomForCounter_5 lk_154 (by decide) (by decide) rfl (fun _ => rfl) h1 ?_
  obtain ⟨h2, H⟩ := x_ckp H
  refine x_alen 8 3 dX4_hasRoomForCounter_8 h2 (by decide) ?_
  refine x_icmp_ge 9 16 dX4_hasRoomForCounter_9 (by decide) (fun c3 => ?_) (fun c3 => ?_)
  · replace H := x_ifp c3 H
    refine x_iconst 16 (0 : Int32) dX4_hasRoomForCounter_16 (by decide) ?_
    cases H
    exact x_iret 17 dX4_hasRoomForCounter_17 .boolean rfl rfl (Nat.le_of_ble_eq_true rfl) (Nat.le_of_ble_eq_true rfl) ⟨rfl, rfl⟩
  · replace H := x_ifn c3 H
    refine x_iconst 12 (1 : Int32) dX4_hasRoomForCounter_12 (by decide) ?_
    refine x_goto 13 17 dX4_hasRoomForCounter_13 (by decide) ?_
    cases H
    exact x_iret 17 dX4_hasRoomForCounter_17 .boolean rfl rfl (Nat.le_of_ble_eq_true rfl) (Nat.le_of_ble_eq_true rfl) ⟨rfl, rfl⟩

theorem ct_X4_hasRoomForCounter (l : Launch) {v0 : Nat} {M : XM} {q : Int32 × XM} (H : f_X4_hasRoomForCounter v0 M = some q) : Ct l m_X4_hasRoomForCounter 1 0 0 [(.ref v0)] M (x_Ri q) := x_met l m_X4_hasRoomForCounter 1 0 0 [(.ref v0)] M (x_Ri q) _ rfl rfl (Nat.le_of_ble_eq_true rfl) (t_X4_hasRoomForCounter l H)
theorem lk_529 : Cond.code yX2_becomeNew cX2_becomeNew 3 none ∈ x_TB := x_tb (k := 529) (by decide +kernel) rfl
theorem lk_526 : Cond.methodLink RX4 51 yX2_becomeNew ∈ x_TB := x_tb (k := 526) (by decide +kernel) rfl
theorem lk_528 : Cond.selects RX2 yX2_becomeNew yX2_becomeNew ∈ x_TB := x_tb (k := 528) (by decide +kernel) rfl
theorem lk_527 : Cond.instanceMethod yX2_becomeNew ∈ x_TB := x_tb (k := 527) (by decide +kernel) rfl
abbrev m_X4_addCounter : XU := (yX4_addCounter, cX4_addCounter, 3, (some .int))
theorem cn_X4_addCounter : m_X4_addCounter.1.cls ≠ "java/lang/invoke/MethodHandle" ∧ m_X4_addCounter.1.cls ≠ "java/lang/invoke/VarHandle" ∧ (parseMethodDescriptor m_X4_addCounter.1.desc).map (fun q => q.parameters.length) = some 2 := by decide +kernel
def f_X4_addCounter (v0 : Nat) (v1 : Int32) (v2 : Int32) (M : XM) : Option (Int32 × XM) :=
  if x_tag M v0 = 4 + 10 then (if x_at M (x_r M v0 0) 3 (x_i M v0 1) = true then (if x_tag M (x_r M (x_r M v0 0) (x_i M v0 1).toNatClampNeg) = 2 + 10 then (x_bv (f_X2_becomeNew (x_r M (x_r M v0 0) (x_i M v0 1).toNatClampNeg) v1 v2 M) (fun M4 => if x_tag M4 v0 = 4 + 10 then (x_lt (x_wi M4 v0 1 ((x_i M4 v0 1) + (1 : Int32))) (fun M8 => some (((x_i M8 v0 1) - (1 : Int32)), M8))) else none)) else none) else none) else none
set_option maxRecDepth 20000 in
set_option maxHeartbeats 4000000 in
theorem t_X4_addCounter (l : Launch) {v0 : Nat} {v1 : Int32} {v2 : Int32} {M : XM} {q : Int32 × XM} (H : f_X4_addCounter v0 v1 v2 M = some q) : AW l m_X4_addCounter 3 0 0 (x_Ri q) 0 0 0 [some (.ref v0), some (.int v1), some (.int v2)] [] M := by
  unfold f_X4_addCounter at H
  refine x_aload_n 0 0 dX4_addCounter_0 rfl rfl ?_
  obtain ⟨h1, H⟩ := x_ckp H
  refine x_getf 1 11 4 0 (.ref (x_r M v0 0)) dX4_addCounter_1 lk_154 (by decide) (by decide) rfl (fun _ => rfl) h1 ?_
  refine x_aload_n 4 0 dX4_addCounter_4 rfl rfl ?_
  refine x_getf 5 42 4 1 (.int (x_i M v0 1)) dX4_addCounter_5 lk_159 (by decide) (by decide) rfl (fun _ => rfl) h1 ?_
  obtain ⟨h2, H⟩ := x_ckp H
  refine x_aald3 8 dX4_addCounter_8 h2 ?_
  refine x_iload_n 9 1 dX4_addCounter_9 rfl rfl ?_
  refine x_iload_n 10 2 dX4_addCounter_10 rfl rfl ?_
  obtain ⟨h3, H⟩ := x_ckp H
  obtain ⟨M4, e6, H⟩ := x_bv_of H
  refine x_callV 11 51 2 [(.int v1), (.int v2)] [] dX4_addCounter_11 (ct_X2_becomeNew l e6) lk_526 lk_527 lk_528 (by decide) h3 lk_87 lk_529 ⟨cn_X2_becomeNew, (by decide), by decide⟩ rfl (Nat.le_of_ble_eq_true rfl) (Nat.le_of_ble_eq_true rfl) (Nat.le_of_ble_eq_true rfl) (x_rv ?_)
  refine x_aload_n 14 0 dX4_addCounter_14 rfl rfl ?_
  refine x_dup 15 dX4_addCounter_15 rfl ?_
  obtain ⟨h7, H⟩ := x_ckp H
  refine x_getf 16 42 4 1 (.int (x_i M4 v0 1)) dX4_addCounter_16 lk_159 (by decide) (by decide) rfl (fun _ => rfl) h7 ?_
  refine x_iconst 19 (1 : Int32) dX4_addCounter_19 (by decide) ?_
  refine x_iadd 20 dX4_addCounter_20 ?_
  obtain ⟨M8, w9, H⟩ := x_lt_of H
  have h10 : x_tag M8 v0 = 4 + 10 := by rw [w9]; exact h7
  refine x_putI' 21 42 4 1 dX4_addCounter_21 lk_159 (by decide) (by decide) rfl (Or.inl rfl) (Or.inl rfl) h7 w9 ?_
  refine x_aload_n 24 0 dX4_addCounter_24 rfl rfl ?_
  refine x_getf 25 42 4 1 (.int (x_i M8 v0 1)) dX4_addCounter_25 lk_159 (by decide) (by decide) rfl (fun _ => rfl) h10 ?_
  refine x_iconst 28 (1 : Int32) dX4_addCounter_28 (by decide) ?_
  refine x_isub 29 dX4_addCounter_29 ?_
  cases H
  exact x_iret 30 dX4_addCounter_30 .int rfl rfl (Nat.le_of_ble_eq_true rfl) (Nat.le_of_ble_eq_true rfl) ⟨rfl, rfl⟩

theorem ct_X4_addCounter (l : Launch) {v0 : Nat} {v1 : Int32} {v2 : Int32} {M : XM} {q : Int32 × XM} (H : f_X4_addCounter v0 v1 v2 M = some q) : Ct l m_X4_addCounter 3 0 0 [(.ref v0), (.int v1), (.int v2)] M (x_Ri q) := x_met l m_X4_addCounter 3 0 0 [(.ref v0), (.int v1), (.int v2)] M (x_Ri q) _ rfl rfl (Nat.le_of_ble_eq_true rfl) (t_X4_addCounter l H)
abbrev m_X4_hasRoomForTally : XU := (yX4_hasRoomForTally, cX4_hasRoomForTally, 1, (some .boolean))
theorem cn_X4_hasRoomForTally : m_X4_hasRoomForTally.1.cls ≠ "java/lang/invoke/MethodHandle" ∧ m_X4_hasRoomForTally.1.cls ≠ "java/lang/invoke/VarHandle" ∧ (parseMethodDescriptor m_X4_hasRoomForTally.1.desc).map (fun q => q.parameters.length) = some 0 := by decide +kernel
def f_X4_hasRoomForTally (v0 : Nat) (M : XM) : Option (Int32 × XM) :=
  if x_tag M v0 = 4 + 10 then (if x_tag M (x_r M v0 6) = 1 then (if (Int32.ofNat (x_len M (x_r M v0 6))) ≤ (x_i M v0 7) then (some ((0 : Int32), M)) else (some ((1 : Int32), M))) else none) else none
set_option maxRecDepth 20000 in
set_option maxHeartbeats 4000000 in
theorem t_X4_hasRoomForTally (l : Launch) {v0 : Nat} {M : XM} {q : Int32 × XM} (H : f_X4_hasRoomForTally v0 M = some q) : AW l m_X4_hasRoomForTally 1 0 0 (x_Ri q) 0 0 0 [some (.ref v0)] [] M := by
  unfold f_X4_hasRoomForTally at H
  refine x_aload_n 0 0 dX4_hasRoomForTally_0 rfl rfl ?_
  obtain ⟨h1, H⟩ := x_ckp H
  refine x_getf 1 45 4 7 (.int (x_i M v0 7)) dX4_hasRoomForTally_1 lk_179 (by decide) (by decide) rfl (fun _ => rfl) h1 ?_
  refine x_aload_n 4 0 dX4_hasRoomForTally_4 rfl rfl ?_
  refine x_getf 5 30 4 6 (.ref (x_r M v0 6)) dX4_hasRoomForTally_5 lk_177 (by decide) (by decide) rfl (fun _ => rfl) h1 ?_
  obtain ⟨h2, H⟩ := x_ckp H
  refine x_alen 8 1 dX4_hasRoomForTally_8 h2 (by decide) ?_
  refine x_icmp_ge 9 16 dX4_hasRoomForTally_9 (by decide) (fun c3 => ?_) (fun c3 => ?_)
  · replace H := x_ifp c3 H
    refine x_iconst 16 (0 : Int32) dX4_hasRoomForTally_16 (by decide) ?_
    cases H
    exact x_iret 17 dX4_hasRoomForTally_17 .boolean rfl rfl (Nat.le_of_ble_eq_true rfl) (Nat.le_of_ble_eq_true rfl) ⟨rfl, rfl⟩
  · replace H := x_ifn c3 H
    refine x_iconst 12 (1 : Int32) dX4_hasRoomForTally_12 (by decide) ?_
    refine x_goto 13 17 dX4_hasRoomForTally_13 (by decide) ?_
    cases H
    exact x_iret 17 dX4_hasRoomForTally_17 .boolean rfl rfl (Nat.le_of_ble_eq_true rfl) (Nat.le_of_ble_eq_true rfl) ⟨rfl, rfl⟩

theorem ct_X4_hasRoomForTally (l : Launch) {v0 : Nat} {M : XM} {q : Int32 × XM} (H : f_X4_hasRoomForTally v0 M = some q) : Ct l m_X4_hasRoomForTally 1 0 0 [(.ref v0)] M (x_Ri q) := x_met l m_X4_hasRoomForTally 1 0 0 [(.ref v0)] M (x_Ri q) _ rfl rfl (Nat.le_of_ble_eq_true rfl) (t_X4_hasRoomForTally l H)
