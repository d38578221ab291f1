theorem lk_584 : Cond.code yX6_intAt cX6_intAt 2 (some .int) ∈ x_TB := x_tb (k := 584) (by decide +kernel) rfl
theorem lk_581 : Cond.methodLink RX5 35 yX6_intAt ∈ x_TB := x_tb (k := 581) (by decide +kernel) rfl
theorem lk_583 : Cond.selects RX6 yX6_intAt yX6_intAt ∈ x_TB := x_tb (k := 583) (by decide +kernel) rfl
theorem lk_582 : Cond.instanceMethod yX6_intAt ∈ x_TB := x_tb (k := 582) (by decide +kernel) rfl
abbrev m_X5_read : XU := (yX5_read, cX5_read, 3, (some .int))
theorem cn_X5_read : m_X5_read.1.cls ≠ "java/lang/invoke/MethodHandle" ∧ m_X5_read.1.cls ≠ "java/lang/invoke/VarHandle" ∧ (parseMethodDescriptor m_X5_read.1.desc).map (fun q => q.parameters.length) = some 1 := by decide +kernel
def f_X5_read_c93 (κ59 : Nat → Int32 → XM → Option (Int32 × XM)) (v0 : Nat) (v2 : Int32) (M : XM) : Option (Int32 × XM) :=
  κ59 v0 (v2 + (1 : Int32)) M
set_option maxRecDepth 20000 in
set_option maxHeartbeats 4000000 in
theorem t_X5_read_c93 (l : Launch) {κ59 : Nat → Int32 → XM → Option (Int32 × XM)} {v0 : Nat} {v2 : Int32} {M : XM} {q : Int32 × XM} (hκ59 : ∀ (v0 : Nat) (v2 : Int32) (M : XM), κ59 v0 v2 M = some q → AW l m_X5_read 8 0 0 (x_Ri q) 0 0 59 [some (.ref v0), none, some (.int v2)] [] M) (H : f_X5_read_c93 κ59 v0 v2 M = some q) : AW l m_X5_read 8 0 0 (x_Ri q) 0 0 96 [some (.ref v0), none, some (.int v2)] [] M := by
  unfold f_X5_read_c93 at H
  refine x_iinc 96 2 (v2 + (1 : Int32)) [some (.ref v0), none, some (.int (v2 + (1 : Int32)))] dX5_read_96 rfl (congrArg (fun z : Int32 => v2 + z) (show Int32.ofInt (1) = (1 : Int32) by decide)) rfl (Nat.le_of_ble_eq_true rfl) rfl ?_
  refine x_goto 99 59 dX5_read_99 (by decide) ?_
  exact hκ59 _ _ _ H

def f_X5_read_c89 (κ59 : Nat → Int32 → XM → Option (Int32 × XM)) (v0 : Nat) (v2 : Int32) (M : XM) : Option (Int32 × XM) :=
  if x_tag M v0 = 5 + 10 then (x_bv (f_X5_readItem v0 M) (f_X5_read_c93 κ59 v0 v2)) else none
set_option maxRecDepth 20000 in
set_option maxHeartbeats 4000000 in
theorem t_X5_read_c89 (l : Launch) {κ59 : Nat → Int32 → XM → Option (Int32 × XM)} {v0 : Nat} {v2 : Int32} {M : XM} {q : Int32 × XM} (hκ59 : ∀ (v0 : Nat) (v2 : Int32) (M : XM), κ59 v0 v2 M = some q → AW l m_X5_read 8 0 0 (x_Ri q) 0 0 59 [some (.ref v0), none, some (.int v2)] [] M) (H : f_X5_read_c89 κ59 v0 v2 M = some q) : AW l m_X5_read 8 0 0 (x_Ri q) 0 0 92 [some (.ref v0), none, some (.int v2)] [] M := by
  unfold f_X5_read_c89 at H
  refine x_aload_n 92 0 dX5_read_92 rfl rfl ?_
  obtain ⟨h27, H⟩ := x_ckp H
  obtain ⟨M28, e30, H⟩ := x_bv_of H
  refine x_callV 93 42 5 [] [] dX5_read_93 (ct_X5_readItem l e30) lk_586 lk_588 lk_5 (by decide) h27 lk_88 lk_589 ⟨cn_X5_readItem, (by decide), by decide⟩ rfl (Nat.le_of_ble_eq_true rfl) (Nat.le_of_ble_eq_true rfl) (Nat.le_of_ble_eq_true rfl) (x_rv ?_)
  exact t_X5_read_c93 l hκ59 H

def bd_X5_read_59 (κ59 : Nat → Int32 → XM → Option (Int32 × XM)) (v0 : Nat) (v2 : Int32) (M : XM) : Option (Int32 × XM) :=
  if x_tag M v0 = 5 + 10 then (if (x_i M v0 3) < v2 then (some (v2, M)) else (if (x_i M v0 0) = (-1 : Int32) then (if (x_i M v0 3) ≤ (x_i M v0 4) then (some (v2, M)) else (x_bv (f_X5_expect v0 (59 : Int32) M) (f_X5_read_c89 κ59 v0 v2))) else (some (v2, M)))) else none
set_option maxRecDepth 20000 in
set_option maxHeartbeats 4000000 in
theorem tb_X5_read_59 (l : Launch) {κ59 : Nat → Int32 → XM → Option (Int32 × XM)} {v0 : Nat} {v2 : Int32} {M : XM} {q : Int32 × XM} (hκ59 : ∀ (v0 : Nat) (v2 : Int32) (M : XM), κ59 v0 v2 M = some q → AW l m_X5_read 8 0 0 (x_Ri q) 0 0 59 [some (.ref v0), none, some (.int v2)] [] M) (H : bd_X5_read_59 κ59 v0 v2 M = some q) : AW l m_X5_read 8 0 0 (x_Ri q) 0 0 59 [some (.ref v0), none, some (.int v2)] [] M := by
  unfold bd_X5_read_59 at H
  refine x_iload_n 59 2 dX5_read_59 rfl rfl ?_
  refine x_aload_n 60 0 dX5_read_60 rfl rfl ?_
  obtain ⟨h20, H⟩ := x_ckp H
  refine x_getf 61 34 5 3 (.int (x_i M v0 3)) dX5_read_61 lk_216 (by decide) (by decide) rfl (fun _ => rfl) h20 ?_
  refine x_icmp_gt 64 102 dX5_read_64 (by decide) (fun c21 => ?_) (fun c21 => ?_)
  · replace H := x_ifp c21 H
    refine x_iload_n 102 2 dX5_read_102 rfl rfl ?_
    cases H
    exact x_iret 103 dX5_read_103 .int rfl rfl (Nat.le_of_ble_eq_true rfl) (Nat.le_of_ble_eq_true rfl) ⟨rfl, rfl⟩
  · replace H := x_ifn c21 H
    refine x_aload_n 67 0 dX5_read_67 rfl rfl ?_
    refine x_getf 68 9 5 0 (.int (x_i M v0 0)) dX5_read_68 lk_212 (by decide) (by decide) rfl (fun _ => rfl) h20 ?_
    refine x_iconst 71 (-1 : Int32) dX5_read_71 (by decide) ?_
    refine x_icmp_ne 72 102 dX5_read_72 (by decide) (fun c22 => ?_) (fun c22 => ?_)
    · replace H := x_ifn c22 H
      refine x_iload_n 102 2 dX5_read_102 rfl rfl ?_
      cases H
      exact x_iret 103 dX5_read_103 .int rfl rfl (Nat.le_of_ble_eq_true rfl) (Nat.le_of_ble_eq_true rfl) ⟨rfl, rfl⟩
    · replace H := x_ifp c22 H
      refine x_aload_n 75 0 dX5_read_75 rfl rfl ?_
      refine x_getf 76 39 5 4 (.int (x_i M v0 4)) dX5_read_76 lk_217 (by decide) (by decide) rfl (fun _ => rfl) h20 ?_
      refine x_aload_n 79 0 dX5_read_79 rfl rfl ?_
      refine x_getf 80 34 5 3 (.int (x_i M v0 3)) dX5_read_80 lk_216 (by decide) (by decide) rfl (fun _ => rfl) h20 ?_
      refine x_icmp_ge 83 102 dX5_read_83 (by decide) (fun c23 => ?_) (fun c23 => ?_)
      · replace H := x_ifp c23 H
        refine x_iload_n 102 2 dX5_read_102 rfl rfl ?_
        cases H
        exact x_iret 103 dX5_read_103 .int rfl rfl (Nat.le_of_ble_eq_true rfl) (Nat.le_of_ble_eq_true rfl) ⟨rfl, rfl⟩
      · replace H := x_ifn c23 H
        refine x_aload_n 86 0 dX5_read_86 rfl rfl ?_
        refine x_bipush 87 (59 : Int32) dX5_read_87 (by decide) ?_
        obtain ⟨M24, e26, H⟩ := x_bv_of H
        refine x_callV 89 45 5 [(.int (59 : Int32))] [] dX5_read_89 (ct_X5_expect l e26) lk_668 lk_670 lk_9 (by decide) h20 lk_88 lk_671 ⟨cn_X5_expect, (by decide), by decide⟩ rfl (Nat.le_of_ble_eq_true rfl) (Nat.le_of_ble_eq_true rfl) (Nat.le_of_ble_eq_true rfl) (x_rv ?_)
        exact t_X5_read_c89 l hκ59 H

def lp_X5_read_59 (n : Nat) : Nat → Int32 → XM → Option (Int32 × XM) := x_rec (fun _ _ _ => none) (bd_X5_read_59) n
theorem t_X5_read_59 (l : Launch) {q : Int32 × XM} : ∀ (n : Nat) (v0 : Nat) (v2 : Int32) (M : XM), lp_X5_read_59 n v0 v2 M = some q → AW l m_X5_read 8 0 0 (x_Ri q) 0 0 59 [some (.ref v0), none, some (.int v2)] [] M := by
  intro n
  induction n with
  | zero => intro v0 v2 M H; cases H
  | succ n ih => intro v0 v2 M H; exact tb_X5_read_59 l ih H
def f_X5_read_c54 (v0 : Nat) (M : XM) : Option (Int32 × XM) :=
  lp_X5_read_59 x_fuel v0 (1 : Int32) M
set_option maxRecDepth 20000 in
set_option maxHeartbeats 4000000 in
theorem t_X5_read_c54 (l : Launch) {v0 : Nat} {M : XM} {q : Int32 × XM} (H : f_X5_read_c54 v0 M = some q) : AW l m_X5_read 8 0 0 (x_Ri q) 0 0 57 [some (.ref v0), none, none] [] M := by
  unfold f_X5_read_c54 at H
  refine x_iconst 57 (1 : Int32) dX5_read_57 (by decide) ?_
  refine x_istore_n 58 2 [some (.ref v0), none, some (.int (1 : Int32))] dX5_read_58 rfl rfl (Nat.le_of_ble_eq_true rfl) rfl ?_
  exact t_X5_read_59 l _ _ _ _ H

def f_X5_read_c33 (κ18 : Nat → Nat → Int32 → XM → Option (Int32 × XM)) (v0 : Nat) (v1 : Nat) (v2 : Int32) (s1 : Int32) (s2 : Nat) (s0 : Int32) (M : XM) : Option (Int32 × XM) :=
  if x_at M s2 1 s1 = true then (x_lt (x_wi M s2 s1.toNatClampNeg s0) (fun M36 => κ18 v0 v1 (v2 + (1 : Int32)) M36)) else none
set_option maxRecDepth 20000 in
set_option maxHeartbeats 4000000 in
theorem t_X5_read_c33 (l : Launch) {κ18 : Nat → Nat → Int32 → XM → Option (Int32 × XM)} {v0 : Nat} {v1 : Nat} {v2 : Int32} {s1 : Int32} {s2 : Nat} {s0 : Int32} {M : XM} {q : Int32 × XM} (hκ18 : ∀ (v0 : Nat) (v1 : Nat) (v2 : Int32) (M : XM), κ18 v0 v1 v2 M = some q → AW l m_X5_read 8 0 0 (x_Ri q) 0 0 18 [some (.ref v0), some (.ref v1), some (.int v2)] [] M) (H : f_X5_read_c33 κ18 v0 v1 v2 s1 s2 s0 M = some q) : AW l m_X5_read 8 0 0 (x_Ri q) 0 0 36 [some (.ref v0), some (.ref v1), some (.int v2)] [(.int s0), (.int s1), (.ref s2)] M := by
  unfold f_X5_read_c33 at H
  obtain ⟨h35, H⟩ := x_ckp H
  obtain ⟨M36, w37, H⟩ := x_lt_of H
  have h38 : x_at M36 s2 1 s1 = true := by rw [w37]; exact h35
  have h39 : x_tag M36 s2 = 1 := by rw [w37]; exact (x_at_1 h35)
  refine x_iast' 36 dX5_read_36 h35 w37 ?_
  refine x_iinc 37 2 (v2 + (1 : Int32)) [some (.ref v0), some (.ref v1), some (.int (v2 + (1 : Int32)))] dX5_read_37 rfl (congrArg (fun z : Int32 => v2 + z) (show Int32.ofInt (1) = (1 : Int32) by decide)) rfl (Nat.le_of_ble_eq_true rfl) rfl ?_
  refine x_goto 40 18 dX5_read_40 (by decide) ?_
  exact hκ18 _ _ _ _ H

def bd_X5_read_18 (κ18 : Nat → Nat → Int32 → XM → Option (Int32 × XM)) (v0 : Nat) (v1 : Nat) (v2 : Int32) (M : XM) : Option (Int32 × XM) :=
  if x_tag M v0 = 5 + 10 then (if (x_i M v0 3) ≤ v2 then (x_lt (x_wi M v0 4 (0 : Int32)) (fun M11 => x_lt (x_wi M11 v0 0 (-1 : Int32)) (fun M14 => x_bv (f_X5_readItem v0 M14) (f_X5_read_c54 v0)))) else (if x_tag M v1 = 6 + 10 then (x_bd (f_X6_intAt v1 v2 M) (f_X5_read_c33 κ18 v0 v1 v2 v2 (x_r M v0 2))) else none)) else none
set_option maxRecDepth 20000 in
set_option maxHeartbeats 4000000 in
theorem tb_X5_read_18 (l : Launch) {κ18 : Nat → Nat → Int32 → XM → Option (Int32 × XM)} {v0 : Nat} {v1 : Nat} {v2 : Int32} {M : XM} {q : Int32 × XM} (hκ18 : ∀ (v0 : Nat) (v1 : Nat) (v2 : Int32) (M : XM), κ18 v0 v1 v2 M = some q → AW l m_X5_read 8 0 0 (x_Ri q) 0 0 18 [some (.ref v0), some (.ref v1), some (.int v2)] [] M) (H : bd_X5_read_18 κ18 v0 v1 v2 M = some q) : AW l m_X5_read 8 0 0 (x_Ri q) 0 0 18 [some (.ref v0), some (.ref v1), some (.int v2)] [] M := by
  unfold bd_X5_read_18 at H
  refine x_iload_n 18 2 dX5_read_18 rfl rfl ?_
  refine x_aload_n 19 0 dX5_read_19 rfl rfl ?_
  obtain ⟨h9, H⟩ := x_ckp H
  refine x_getf 20 34 5 3 (.int (x_i M v0 3)) dX5_read_20 lk_216 (by decide) (by decide) rfl (fun _ => rfl) h9 ?_
  refine x_icmp_ge 23 43 dX5_read_23 (by decide) (fun c10 => ?_) (fun c10 => ?_)
  · replace H := x_ifp c10 H
    refine x_aload_n 43 0 dX5_read_43 rfl rfl ?_
    refine x_iconst 44 (0 : Int32) dX5_read_44 (by decide) ?_
    obtain ⟨M11, w12, H⟩ := x_lt_of H
    have h13 : x_tag M11 v0 = 5 + 10 := by rw [w12]; exact h9
    refine x_putI' 45 39 5 4 dX5_read_45 lk_217 (by decide) (by decide) rfl (Or.inl rfl) (Or.inl rfl) h9 w12 ?_
    refine x_aload_n 48 0 dX5_read_48 rfl rfl ?_
    refine x_iconst 49 (-1 : Int32) dX5_read_49 (by decide) ?_
    obtain ⟨M14, w15, H⟩ := x_lt_of H
    have h16 : x_tag M14 v0 = 5 + 10 := by rw [w15]; exact h13
    refine x_putI' 50 9 5 0 dX5_read_50 lk_212 (by decide) (by decide) rfl (Or.inl rfl) (Or.inl rfl) h13 w15 ?_
    refine x_aload_n 53 0 dX5_read_53 rfl rfl ?_
    obtain ⟨M17, e19, H⟩ := x_bv_of H
    refine x_callV 54 42 5 [] [] dX5_read_54 (ct_X5_readItem l e19) lk_586 lk_588 lk_5 (by decide) h16 lk_88 lk_589 ⟨cn_X5_readItem, (by decide), by decide⟩ rfl (Nat.le_of_ble_eq_true rfl) (Nat.le_of_ble_eq_true rfl) (Nat.le_of_ble_eq_true rfl) (x_rv ?_)
    exact x_wk (le_s (le_n (le_n le_0))) (t_X5_read_c54 l H)
  · replace H := x_ifn c10 H
    refine x_aload_n 26 0 dX5_read_26 rfl rfl ?_
    refine x_getf 27 15 5 2 (.ref (x_r M v0 2)) dX5_read_27 lk_215 (by decide) (by decide) rfl (fun _ => rfl) h9 ?_
    refine x_iload_n 30 2 dX5_read_30 rfl rfl ?_
    refine x_aload_n 31 1 dX5_read_31 rfl rfl ?_
    refine x_iload_n 32 2 dX5_read_32 rfl rfl ?_
    obtain ⟨h31, H⟩ := x_ckp H
    obtain ⟨r33, M32, e34, H⟩ := x_bd_of H
    refine x_callV 33 35 6 [(.int v2)] [(.int v2), (.ref (x_r M v0 2))] dX5_read_33 (ct_X6_intAt l e34) lk_581 lk_582 lk_583 (by decide) h31 lk_93 lk_584 ⟨cn_X6_intAt, (by decide), by decide⟩ rfl (Nat.le_of_ble_eq_true rfl) (Nat.le_of_ble_eq_true rfl) (Nat.le_of_ble_eq_true rfl) (x_ri ?_)
    exact t_X5_read_c33 l hκ18 H

def lp_X5_read_18 (n : Nat) : Nat → Nat → Int32 → XM → Option (Int32 × XM) := x_rec (fun _ _ _ _ => none) (bd_X5_read_18) n
theorem t_X5_read_18 (l : Launch) {q : Int32 × XM} : ∀ (n : Nat) (v0 : Nat) (v1 : Nat) (v2 : Int32) (M : XM), lp_X5_read_18 n v0 v1 v2 M = some q → AW l m_X5_read 8 0 0 (x_Ri q) 0 0 18 [some (.ref v0), some (.ref v1), some (.int v2)] [] M := by
  intro n
  induction n with
  | zero => intro v0 v1 v2 M H; cases H
  | succ n ih => intro v0 v1 v2 M H; exact tb_X5_read_18 l ih H
def f_X5_read (v0 : Nat) (v1 : Nat) (M : XM) : Option (Int32 × XM) :=
  if x_tag M v1 = 6 + 10 then (if x_tag M v0 = 5 + 10 then (if x_tag M (x_r M v0 2) = 1 then (x_lt (x_wi M v0 3 (if (Int32.ofNat (x_len M (x_r M v0 2))) < (x_i M v1 2) then (Int32.ofNat (x_len M (x_r M v0 2))) else (x_i M v1 2))) (fun M4 => lp_X5_read_18 x_fuel v0 v1 (0 : Int32) M4)) else none) else none) else none
set_option maxRecDepth 20000 in
set_option maxHeartbeats 4000000 in
theorem t_X5_read (l : Launch) {v0 : Nat} {v1 : Nat} {M : XM} {q : Int32 × XM} (H : f_X5_read v0 v1 M = some q) : AW l m_X5_read 8 0 0 (x_Ri q) 0 0 0 [some (.ref v0), some (.ref v1), none] [] M := by
  unfold f_X5_read at H
  refine x_aload_n 0 0 dX5_read_0 rfl rfl ?_
  refine x_aload_n 1 1 dX5_read_1 rfl rfl ?_
  obtain ⟨h1, H⟩ := x_ckp H
  refine x_getf 2 23 6 2 (.int (x_i M v1 2)) dX5_read_2 lk_343 (by decide) (by decide) rfl (fun _ => rfl) h1 ?_
  refine x_aload_n 5 0 dX5_read_5 rfl rfl ?_
  obtain ⟨h2, H⟩ := x_ckp H
  refine x_getf 6 15 5 2 (.ref (x_r M v0 2)) dX5_read_6 lk_215 (by decide) (by decide) rfl (fun _ => rfl) h2 ?_
  obtain ⟨h3, H⟩ := x_ckp H
  refine x_alen 9 1 dX5_read_9 h3 (by decide) ?_
  refine x_min 10 28 dX5_read_10 lk_580 lk_558 lk_97 lk_559 rfl (Nat.le_of_ble_eq_true rfl) (by decide) (Nat.le_of_ble_eq_true rfl) (Nat.le_of_ble_eq_true rfl) ?_
  obtain ⟨M4, w5, H⟩ := x_lt_of H
  have h6 : x_tag M4 v1 = 6 + 10 := by rw [w5]; exact h1
  have h7 : x_tag M4 v0 = 5 + 10 := by rw [w5]; exact h2
  have h8 : x_tag M4 (x_r M v0 2) = 1 := by rw [w5]; exact h3
  refine x_putI' 13 34 5 3 dX5_read_13 lk_216 (by decide) (by decide) rfl (Or.inl rfl) (Or.inl rfl) h2 w5 ?_
  refine x_iconst 16 (0 : Int32) dX5_read_16 (by decide) ?_
  refine x_istore_n 17 2 [some (.ref v0), some (.ref v1), some (.int (0 : Int32))] dX5_read_17 rfl rfl (Nat.le_of_ble_eq_true rfl) rfl ?_
  exact t_X5_read_18 l _ _ _ _ _ H

theorem ct_X5_read (l : Launch) {v0 : Nat} {v1 : Nat} {M : XM} {q : Int32 × XM} (H : f_X5_read v0 v1 M = some q) : Ct l m_X5_read 8 0 0 [(.ref v0), (.ref v1)] M (x_Ri q) := x_met l m_X5_read 8 0 0 [(.ref v0), (.ref v1)] M (x_Ri q) _ rfl rfl (Nat.le_of_ble_eq_true rfl) (t_X5_read l H)
theorem lk_338 : Cond.methodLink RX6 3 Lib.objectInit ∈ x_TB := x_tb (k := 338) (by decide +kernel) rfl
theorem lk_339 : Cond.fieldLink RX6 9 RX6 "counter" "I" ∈ x_TB := x_tb (k := 339) (by decide +kernel) rfl
theorem lk_341 : Cond.fieldLink RX6 15 RX6 "sort" "I" ∈ x_TB := x_tb (k := 341) (by decide +kernel) rfl
theorem lk_356 : Cond.arrayClass (newarray.typeOf .long) ∈ x_TB := x_tb (k := 356) (by decide +kernel) rfl
abbrev m_X6_init : XU := (yX6_init, cX6_init, 1, none)
theorem cn_X6_init : m_X6_init.1.cls ≠ "java/lang/invoke/MethodHandle" ∧ m_X6_init.1.cls ≠ "java/lang/invoke/VarHandle" ∧ (parseMethodDescriptor m_X6_init.1.desc).map (fun q => q.parameters.length) = some 0 := by decide +kernel
def f_X6_init (v0 : Nat) (M : XM) : Option XM :=
  if x_tag M v0 = 6 + 10 then (x_lt (x_wi M v0 0 (-1 : Int32)) (fun M2 => x_lt (x_wi M2 v0 1 (-1 : Int32)) (fun M5 => x_al M5 2 160 (fun a9 M8 => if x_tag M8 v0 = 6 + 10 then (x_lt (x_wr M8 v0 3 a9) (fun M14 => some M14)) else none)))) else none
set_option maxRecDepth 20000 in
set_option maxHeartbeats 4000000 in
theorem t_X6_init (l : Launch) {v0 : Nat} {M : XM} {q : XM} (H : f_X6_init v0 M = some q) : AW l m_X6_init 1 1 160 (x_Rv q) 0 0 0 [some (.ref v0)] [] M := by
  unfold f_X6_init at H
  refine x_aload_n 0 0 dX6_init_0 rfl rfl ?_
  obtain ⟨h1, H⟩ := x_ckp H
  refine x_objInit 1 3 dX6_init_1 lk_338 lk_108 lk_109 h1 rfl (Nat.le_of_ble_eq_true rfl) (by decide) ?_
  refine x_aload_n 4 0 dX6_init_4 rfl rfl ?_
  refine x_iconst 5 (-1 : Int32) dX6_init_5 (by decide) ?_
  obtain ⟨M2, w3, H⟩ := x_lt_of H
  have h4 : x_tag M2 v0 = 6 + 10 := by rw [w3]; exact h1
  refine x_putI' 6 9 6 0 dX6_init_6 lk_339 (by decide) (by decide) rfl (Or.inl rfl) (Or.inl rfl) h1 w3 ?_
  refine x_aload_n 9 0 dX6_init_9 rfl rfl ?_
  refine x_iconst 10 (-1 : Int32) dX6_init_10 (by decide) ?_
  obtain ⟨M5, w6, H⟩ := x_lt_of H
  have h7 : x_tag M5 v0 = 6 + 10 := by rw [w6]; exact h4
  refine x_putI' 11 15 6 1 dX6_init_11 lk_341 (by decide) (by decide) rfl (Or.inl rfl) (Or.inl rfl) h4 w6 ?_
  refine x_aload_n 14 0 dX6_init_14 rfl rfl ?_
  refine x_sipush 15 (160 : Int32) dX6_init_15 (by decide) ?_
  obtain ⟨a9, M8, w10, w11, H⟩ := x_al_of H
  refine x_newL' 18 160 dX6_init_18 lk_356 (by decide) (by decide) (by decide) (Nat.le_of_ble_eq_true rfl) (Nat.le_of_ble_eq_true rfl) w10 w11 ?_
  have h12 : x_tag M8 a9 = 2 := x_al_tag w10 w11
  change AW _ _ _ _ _ _ 1 160 _ _ _ _
  obtain ⟨h13, H⟩ := x_ckp H
  obtain ⟨M14, w15, H⟩ := x_lt_of H
  have h16 : x_tag M14 a9 = 2 := by rw [w15]; exact h12
  have h17 : x_tag M14 v0 = 6 + 10 := by rw [w15]; exact h13
  refine x_putR' 20 18 6 3 dX6_init_20 lk_346 (by decide) (by decide) rfl (Or.inr ⟨_, rfl⟩) (Or.inr ⟨rfl, rfl⟩) h13 w15 ?_
  cases H
  exact x_vret 23 dX6_init_23 rfl (Nat.le_of_ble_eq_true rfl) (Nat.le_of_ble_eq_true rfl) ⟨rfl, rfl⟩

theorem ct_X6_init (l : Launch) {v0 : Nat} {M : XM} {q : XM} (H : f_X6_init v0 M = some q) : Ct l m_X6_init 1 1 160 [(.ref v0)] M (x_Rv q) := x_met l m_X6_init 1 1 160 [(.ref v0)] M (x_Rv q) _ rfl rfl (Nat.le_of_ble_eq_true rfl) (t_X6_init l H)
abbrev m_X6_hasRow : XU := (yX6_hasRow, cX6_hasRow, 1, (some .boolean))
theorem cn_X6_hasRow : m_X6_hasRow.1.cls ≠ "java/lang/invoke/MethodHandle" ∧ m_X6_hasRow.1.cls ≠ "java/lang/invoke/VarHandle" ∧ (parseMethodDescriptor m_X6_hasRow.1.desc).map (fun q => q.parameters.length) = some 0 := by decide +kernel
def f_X6_hasRow (v0 : Nat) (M : XM) : Option (Int32 × XM) :=
  if x_tag M v0 = 6 + 10 then (if (x_i M v0 1) = (-1 : Int32) then (some ((0 : Int32), M)) else (some ((1 : Int32), M))) else none
set_option maxRecDepth 20000 in
set_option maxHeartbeats 4000000 in
theorem t_X6_hasRow (l : Launch) {v0 : Nat} {M : XM} {q : Int32 × XM} (H : f_X6_hasRow v0 M = some q) : AW l m_X6_hasRow 1 0 0 (x_Ri q) 0 0 0 [some (.ref v0)] [] M := by
  unfold f_X6_hasRow at H
  refine x_aload_n 0 0 dX6_hasRow_0 rfl rfl ?_
  obtain ⟨h1, H⟩ := x_ckp H
  refine x_getf 1 15 6 1 (.int (x_i M v0 1)) dX6_hasRow_1 lk_341 (by decide) (by decide) rfl (fun _ => rfl) h1 ?_
  refine x_iconst 4 (-1 : Int32) dX6_hasRow_4 (by decide) ?_
  refine x_icmp_eq 5 12 dX6_hasRow_5 (by decide) (fun c2 => ?_) (fun c2 => ?_)
  · replace H := x_ifp c2 H
    refine x_iconst 12 (0 : Int32) dX6_hasRow_12 (by decide) ?_
    cases H
    exact x_iret 13 dX6_hasRow_13 .boolean rfl rfl (Nat.le_of_ble_eq_true rfl) (Nat.le_of_ble_eq_true rfl) ⟨rfl, rfl⟩
  · replace H := x_ifn c2 H
    refine x_iconst 8 (1 : Int32) dX6_hasRow_8 (by decide) ?_
    refine x_goto 9 13 dX6_hasRow_9 (by decide) ?_
    cases H
    exact x_iret 13 dX6_hasRow_13 .boolean rfl rfl (Nat.le_of_ble_eq_true rfl) (Nat.le_of_ble_eq_true rfl) ⟨rfl, rfl⟩

theorem ct_X6_hasRow (l : Launch) {v0 : Nat} {M : XM} {q : Int32 × XM} (H : f_X6_hasRow v0 M = some q) : Ct l m_X6_hasRow 1 0 0 [(.ref v0)] M (x_Ri q) := x_met l m_X6_hasRow 1 0 0 [(.ref v0)] M (x_Ri q) _ rfl rfl (Nat.le_of_ble_eq_true rfl) (t_X6_hasRow l H)
abbrev m_X6_hasCounter : XU := (yX6_hasCounter, cX6_hasCounter, 1, (some .boolean))
theorem cn_X6_hasCounter : m_X6_hasCounter.1.cls ≠ "java/lang/invoke/MethodHandle" ∧ m_X6_hasCounter.1.cls ≠ "java/lang/invoke/VarHandle" ∧ (parseMethodDescriptor m_X6_hasCounter.1.desc).map (fun q => q.parameters.length) = some 0 := by decide +kernel
def f_X6_hasCounter (v0 : Nat) (M : XM) : Option (Int32 × XM) :=
  if x_tag M v0 = 6 + 10 then (if (x_i M v0 0) = (-1 : Int32) then (some ((0 : Int32), M)) else (some ((1 : Int32), M))) else none
set_option maxRecDepth 20000 in
set_option maxHeartbeats 4000000 in
theorem t_X6_hasCounter (l : Launch) {v0 : Nat} {M : XM} {q : Int32 × XM} (H : f_X6_hasCounter v0 M = some q) : AW l m_X6_hasCounter 1 0 0 (x_Ri q) 0 0 0 [some (.ref v0)] [] M := by
  unfold f_X6_hasCounter at H
  refine x_aload_n 0 0 dX6_hasCounter_0 rfl rfl ?_
  obtain ⟨h1, H⟩ := x_ckp H
  refine x_getf 1 9 6 0 (.int (x_i M v0 0)) dX6_hasCounter_1 lk_339 (by decide) (by decide) rfl (fun _ => rfl) h1 ?_
  refine x_iconst 4 (-1 : Int32) dX6_hasCounter_4 (by decide) ?_
  refine x_icmp_eq 5 12 dX6_hasCounter_5 (by decide) (fun c2 => ?_) (fun c2 => ?_)
  · replace H := x_ifp c2 H
    refine x_iconst 12 (0 : Int32) dX6_hasCounter_12 (by decide) ?_
    cases H
    exact x_iret 13 dX6_hasCounter_13 .boolean rfl rfl (Nat.le_of_ble_eq_true rfl) (Nat.le_of_ble_eq_true rfl) ⟨rfl, rfl⟩
  · replace H := x_ifn c2 H
    refine x_iconst 8 (1 : Int32) dX6_hasCounter_8 (by decide) ?_
    refine x_goto 9 13 dX6_hasCounter_9 (by decide) ?_
    cases H
    exact x_iret 13 dX6_hasCounter_13 .boolean rfl rfl (Nat.le_of_ble_eq_true rfl) (Nat.le_of_ble_eq_true rfl) ⟨rfl, rfl⟩

theorem ct_X6_hasCounter (l : Launch) {v0 : Nat} {M : XM} {q : Int32 × XM} (H : f_X6_hasCounter v0 M = some q) : Ct l m_X6_hasCounter 1 0 0 [(.ref v0)] M (x_Ri q) := x_met l m_X6_hasCounter 1 0 0 [(.ref v0)] M (x_Ri q) _ rfl rfl (Nat.le_of_ble_eq_true rfl) (t_X6_hasCounter l H)
theorem lk_440 : Cond.code yX6_hasRow cX6_hasRow 1 (some .boolean) ∈ x_TB := x_tb (k := 440) (by decide +kernel) rfl
theorem lk_494 : Cond.methodLink RX6 22 yX6_hasRow ∈ x_TB := x_tb (k := 494) (by decide +kernel) rfl
theorem lk_439 : Cond.selects RX6 yX6_hasRow yX6_hasRow ∈ x_TB := x_tb (k := 439) (by decide +kernel) rfl
theorem lk_438 : Cond.instanceMethod yX6_hasRow ∈ x_TB := x_tb (k := 438) (by decide +kernel) rfl
abbrev m_X6_content : XU := (yX6_content, cX6_content, 1, (some .int))
theorem cn_X6_content : m_X6_content.1.cls ≠ "java/lang/invoke/MethodHandle" ∧ m_X6_content.1.cls ≠ "java/lang/invoke/VarHandle" ∧ (parseMethodDescriptor m_X6_content.1.desc).map (fun q => q.parameters.length) = some 0 := by decide +kernel
def f_X6_content_c1 (v0 : Nat) (s0 : Int32) (M : XM) : Option (Int32 × XM) :=
  if s0 = 0 then (if x_tag M v0 = 6 + 10 then (some ((x_i M v0 0), M)) else none) else (if x_tag M v0 = 6 + 10 then (some (((100 : Int32) + (x_i M v0 1)), M)) else none)
set_option maxRecDepth 20000 in
set_option maxHeartbeats 4000000 in
theorem t_X6_content_c1 (l : Launch) {v0 : Nat} {s0 : Int32} {M : XM} {q : Int32 × XM} (H : f_X6_content_c1 v0 s0 M = some q) : AW l m_X6_content 2 0 0 (x_Ri q) 0 0 4 [some (.ref v0)] [(.int s0)] M := by
  unfold f_X6_content_c1 at H
  refine x_if_eq 4 17 dX6_content_4 (by decide) (fun c5 => ?_) (fun c5 => ?_)
  · replace H := x_ifp c5 H
    refine x_aload_n 17 0 dX6_content_17 rfl rfl ?_
    obtain ⟨h6, H⟩ := x_ckp H
    refine x_getf 18 9 6 0 (.int (x_i M v0 0)) dX6_content_18 lk_339 (by decide) (by decide) rfl (fun _ => rfl) h6 ?_
    cases H
    exact x_iret 21 dX6_content_21 .int rfl rfl (Nat.le_of_ble_eq_true rfl) (Nat.le_of_ble_eq_true rfl) ⟨rfl, rfl⟩
  · replace H := x_ifn c5 H
    refine x_bipush 7 (100 : Int32) dX6_content_7 (by decide) ?_
    refine x_aload_n 9 0 dX6_content_9 rfl rfl ?_
    obtain ⟨h7, H⟩ := x_ckp H
    refine x_getf 10 15 6 1 (.int (x_i M v0 1)) dX6_content_10 lk_341 (by decide) (by decide) rfl (fun _ => rfl) h7 ?_
    refine x_iadd 13 dX6_content_13 ?_
    refine x_goto 14 21 dX6_content_14 (by decide) ?_
    cases H
    exact x_iret 21 dX6_content_21 .int rfl rfl (Nat.le_of_ble_eq_true rfl) (Nat.le_of_ble_eq_true rfl) ⟨rfl, rfl⟩

def f_X6_content (v0 : Nat) (M : XM) : Option (Int32 × XM) :=
  if x_tag M v0 = 6 + 10 then (x_bd (f_X6_hasRow v0 M) (f_X6_content_c1 v0)) else none
set_option maxRecDepth 20000 in
set_option maxHeartbeats 4000000 in
theorem t_X6_content (l : Launch) {v0 : Nat} {M : XM} {q : Int32 × XM} (H : f_X6_content v0 M = some q) : AW l m_X6_content 2 0 0 (x_Ri q) 0 0 0 [some (.ref v0)] [] M := by
  unfold f_X6_content at H
  refine x_aload_n 0 0 dX6_content_0 rfl rfl ?_
  obtain ⟨h1, H⟩ := x_ckp H
  obtain ⟨r3, M2, e4, H⟩ := x_bd_of H
  refine x_callV 1 22 6 [] [] dX6_content_1 (ct_X6_hasRow l e4) lk_494 lk_438 lk_439 (by decide) h1 lk_93 lk_440 ⟨cn_X6_hasRow, (by decide), by decide⟩ rfl (Nat.le_of_ble_eq_true rfl) (Nat.le_of_ble_eq_true rfl) (Nat.le_of_ble_eq_true rfl) (x_ri ?_)
  exact t_X6_content_c1 l H

theorem ct_X6_content (l : Launch) {v0 : Nat} {M : XM} {q : Int32 × XM} (H : f_X6_content v0 M = some q) : Ct l m_X6_content 2 0 0 [(.ref v0)] M (x_Ri q) := x_met l m_X6_content 2 0 0 [(.ref v0)] M (x_Ri q) _ rfl rfl (Nat.le_of_ble_eq_true rfl) (t_X6_content l H)
abbrev m_J7_fill_d0a16 : XU := (yJ7_fill_d0a16, cJ7_fill_d0a16, 5, none)
theorem cn_J7_fill_d0a16 : m_J7_fill_d0a16.1.cls ≠ "java/lang/invoke/MethodHandle" ∧ m_J7_fill_d0a16.1.cls ≠ "java/lang/invoke/VarHandle" ∧ (parseMethodDescriptor m_J7_fill_d0a16.1.desc).map (fun q => q.parameters.length) = some 2 := by decide +kernel
def bd_J7_fill_d0a16_6 (κ6 : Nat → Int64 → Int32 → Int32 → XM → Option XM) (v0 : Nat) (v1 : Int64) (v3 : Int32) (v4 : Int32) (M : XM) : Option XM :=
  if v4 ≤ v3 then (some M) else (if x_at M v0 2 v3 = true then (x_lt (x_wj M v0 v3.toNatClampNeg v1) (fun M4 => κ6 v0 v1 (v3 + (1 : Int32)) v4 M4)) else none)
set_option maxRecDepth 20000 in
set_option maxHeartbeats 4000000 in
theorem tb_J7_fill_d0a16_6 (l : Launch) {κ6 : Nat → Int64 → Int32 → Int32 → XM → Option XM} {v0 : Nat} {v1 : Int64} {v3 : Int32} {v4 : Int32} {M : XM} {q : XM} (hκ6 : ∀ (v0 : Nat) (v1 : Int64) (v3 : Int32) (v4 : Int32) (M : XM), κ6 v0 v1 v3 v4 M = some q → AW l m_J7_fill_d0a16 1 0 0 (x_Rv q) 0 0 6 [some (.ref v0), some (.long v1), none, some (.int v3), some (.int v4)] [] M) (H : bd_J7_fill_d0a16_6 κ6 v0 v1 v3 v4 M = some q) : AW l m_J7_fill_d0a16 1 0 0 (x_Rv q) 0 0 6 [some (.ref v0), some (.long v1), none, some (.int v3), some (.int v4)] [] M := by
  unfold bd_J7_fill_d0a16_6 at H
  refine x_iload_n 6 3 dJ7_fill_d0a16_6 rfl rfl ?_
  refine x_iload 7 4 dJ7_fill_d0a16_7 rfl ?_
  refine x_icmp_ge 9 22 dJ7_fill_d0a16_9 (by decide) (fun c2 => ?_) (fun c2 => ?_)
  · replace H := x_ifp c2 H
    cases H
    exact x_vret 22 dJ7_fill_d0a16_22 rfl (Nat.le_of_ble_eq_true rfl) (Nat.le_of_ble_eq_true rfl) ⟨rfl, rfl⟩
  · replace H := x_ifn c2 H
    refine x_aload_n 12 0 dJ7_fill_d0a16_12 rfl rfl ?_
    refine x_iload_n 13 3 dJ7_fill_d0a16_13 rfl rfl ?_
    refine x_lload_n 14 1 dJ7_fill_d0a16_14 rfl rfl ?_
    obtain ⟨h3, H⟩ := x_ckp H
    obtain ⟨M4, w5, H⟩ := x_lt_of H
    have h6 : x_at M4 v0 2 v3 = true := by rw [w5]; exact h3
    have h7 : x_tag M4 v0 = 2 := by rw [w5]; exact (x_at_1 h3)
    refine x_last' 15 dJ7_fill_d0a16_15 h3 w5 ?_
    refine x_iinc 16 3 (v3 + (1 : Int32)) [some (.ref v0), some (.long v1), none, some (.int (v3 + (1 : Int32))), some (.int v4)] dJ7_fill_d0a16_16 rfl (congrArg (fun z : Int32 => v3 + z) (show Int32.ofInt (1) = (1 : Int32) by decide)) rfl (Nat.le_of_ble_eq_true rfl) rfl ?_
    refine x_goto 19 6 dJ7_fill_d0a16_19 (by decide) ?_
    exact hκ6 _ _ _ _ _ H

def lp_J7_fill_d0a16_6 (n : Nat) : Nat → Int64 → Int32 → Int32 → XM → Option XM := x_rec (fun _ _ _ _ _ => none) (bd_J7_fill_d0a16_6) n
theorem t_J7_fill_d0a16_6 (l : Launch) {q : XM} : ∀ (n : Nat) (v0 : Nat) (v1 : Int64) (v3 : Int32) (v4 : Int32) (M : XM), lp_J7_fill_d0a16_6 n v0 v1 v3 v4 M = some q → AW l m_J7_fill_d0a16 1 0 0 (x_Rv q) 0 0 6 [some (.ref v0), some (.long v1), none, some (.int v3), some (.int v4)] [] M := by
  intro n
  induction n with
  | zero => intro v0 v1 v3 v4 M H; cases H
  | succ n ih => intro v0 v1 v3 v4 M H; exact tb_J7_fill_d0a16_6 l ih H
def f_J7_fill_d0a16 (v0 : Nat) (v1 : Int64) (M : XM) : Option XM :=
  if x_tag M v0 = 2 then (lp_J7_fill_d0a16_6 x_fuel v0 v1 (0 : Int32) (Int32.ofNat (x_len M v0)) M) else none
set_option maxRecDepth 20000 in
set_option maxHeartbeats 4000000 in
theorem t_J7_fill_d0a16 (l : Launch) {v0 : Nat} {v1 : Int64} {M : XM} {q : XM} (H : f_J7_fill_d0a16 v0 v1 M = some q) : AW l m_J7_fill_d0a16 1 0 0 (x_Rv q) 0 0 0 [some (.ref v0), some (.long v1), none, none, none] [] M := by
  unfold f_J7_fill_d0a16 at H
  refine x_iconst 0 (0 : Int32) dJ7_fill_d0a16_0 (by decide) ?_
  refine x_istore_n 1 3 [some (.ref v0), some (.long v1), none, some (.int (0 : Int32)), none] dJ7_fill_d0a16_1 rfl rfl (Nat.le_of_ble_eq_true rfl) rfl ?_
  refine x_aload_n 2 0 dJ7_fill_d0a16_2 rfl rfl ?_
  obtain ⟨h1, H⟩ := x_ckp H
  refine x_alen 3 2 dJ7_fill_d0a16_3 h1 (by decide) ?_
  refine x_istore 4 4 [some (.ref v0), some (.long v1), none, some (.int (0 : Int32)), some (.int (Int32.ofNat (x_len M v0)))] dJ7_fill_d0a16_4 rfl (Nat.le_of_ble_eq_true rfl) rfl ?_
  exact t_J7_fill_d0a16_6 l _ _ _ _ _ _ H

theorem ct_J7_fill_d0a16 (l : Launch) {v0 : Nat} {v1 : Int64} {M : XM} {q : XM} (H : f_J7_fill_d0a16 v0 v1 M = some q) : Ct l m_J7_fill_d0a16 1 0 0 [(.ref v0), (.long v1)] M (x_Rv q) := x_met l m_J7_fill_d0a16 1 0 0 [(.ref v0), (.long v1)] M (x_Rv q) _ rfl rfl (Nat.le_of_ble_eq_true rfl) (t_J7_fill_d0a16 l H)
theorem lk_420 : Cond.code yJ7_fill_d0a16 cJ7_fill_d0a16 5 none ∈ x_TB := x_tb (k := 420) (by decide +kernel) rfl
theorem lk_418 : Cond.methodLink RX6 29 yJ7_fill_d0a16 ∈ x_TB := x_tb (k := 418) (by decide +kernel) rfl
theorem lk_419 : Cond.static yJ7_fill_d0a16 ∈ x_TB := x_tb (k := 419) (by decide +kernel) rfl
abbrev m_X6_holdRow : XU := (yX6_holdRow, cX6_holdRow, 3, none)
theorem cn_X6_holdRow : m_X6_holdRow.1.cls ≠ "java/lang/invoke/MethodHandle" ∧ m_X6_holdRow.1.cls ≠ "java/lang/invoke/VarHandle" ∧ (parseMethodDescriptor m_X6_holdRow.1.desc).map (fun q => q.parameters.length) = some 2 := by decide +kernel
def f_X6_holdRow (v0 : Nat) (v1 : Int32) (v2 : Int32) (M : XM) : Option XM :=
  if x_tag M v0 = 6 + 10 then (x_lt (x_wi M v0 0 (-1 : Int32)) (fun M2 => x_lt (x_wi M2 v0 1 v1) (fun M5 => x_lt (x_wi M5 v0 2 v2) (fun M8 => x_bv (f_J7_fill_d0a16 (x_r M8 v0 3) (0 : Int64) M8) (fun M11 => some M11))))) else none
set_option maxRecDepth 20000 in
set_option maxHeartbeats 4000000 in
theorem t_X6_holdRow (l : Launch) {v0 : Nat} {v1 : Int32} {v2 : Int32} {M : XM} {q : XM} (H : f_X6_holdRow v0 v1 v2 M = some q) : AW l m_X6_holdRow 2 0 0 (x_Rv q) 0 0 0 [some (.ref v0), some (.int v1), some (.int v2)] [] M := by
  unfold f_X6_holdRow at H
  refine x_aload_n 0 0 dX6_holdRow_0 rfl rfl ?_
  refine x_iconst 1 (-1 : Int32) dX6_holdRow_1 (by decide) ?_
  obtain ⟨h1, H⟩ := x_ckp H
  obtain ⟨M2, w3, H⟩ := x_lt_of H
  have h4 : x_tag M2 v0 = 6 + 10 := by rw [w3]; exact h1
  refine x_putI' 2 9 6 0 dX6_holdRow_2 lk_339 (by decide) (by decide) rfl (Or.inl rfl) (Or.inl rfl) h1 w3 ?_
  refine x_aload_n 5 0 dX6_holdRow_5 rfl rfl ?_
  refine x_iload_n 6 1 dX6_holdRow_6 rfl rfl ?_
  obtain ⟨M5, w6, H⟩ := x_lt_of H
  have h7 : x_tag M5 v0 = 6 + 10 := by rw [w6]; exact h4
  refine x_putI' 7 15 6 1 dX6_holdRow_7 lk_341 (by decide) (by decide) rfl (Or.inl rfl) (Or.inl rfl) h4 w6 ?_
  refine x_aload_n 10 0 dX6_holdRow_10 rfl rfl ?_
  refine x_iload_n 11 2 dX6_holdRow_11 rfl rfl ?_
  obtain ⟨M8, w9, H⟩ := x_lt_of H
  have h10 : x_tag M8 v0 = 6 + 10 := by rw [w9]; exact h7
  refine x_putI' 12 26 6 2 dX6_holdRow_12 lk_344 (by decide) (by decide) rfl (Or.inl rfl) (Or.inl rfl) h7 w9 ?_
  refine x_aload_n 15 0 dX6_holdRow_15 rfl rfl ?_
  refine x_getf 16 18 6 3 (.ref (x_r M8 v0 3)) dX6_holdRow_16 lk_346 (by decide) (by decide) rfl (fun _ => rfl) h10 ?_
  refine x_lconst 19 (0 : Int64) dX6_holdRow_19 (by decide) ?_
  obtain ⟨M11, e13, H⟩ := x_bv_of H
  refine x_callS 20 29 [(.ref (x_r M8 v0 3)), (.long (0 : Int64))] [] dX6_holdRow_20 (ct_J7_fill_d0a16 l e13) lk_418 lk_419 lk_95 lk_420 ⟨cn_J7_fill_d0a16, (by decide), by decide⟩ rfl (Nat.le_of_ble_eq_true rfl) (Nat.le_of_ble_eq_true rfl) (Nat.le_of_ble_eq_true rfl) (x_rv ?_)
  cases H
  exact x_vret 23 dX6_holdRow_23 rfl (Nat.le_of_ble_eq_true rfl) (Nat.le_of_ble_eq_true rfl) ⟨rfl, rfl⟩

theorem ct_X6_holdRow (l : Launch) {v0 : Nat} {v1 : Int32} {v2 : Int32} {M : XM} {q : XM} (H : f_X6_holdRow v0 v1 v2 M = some q) : Ct l m_X6_holdRow 2 0 0 [(.ref v0), (.int v1), (.int v2)] M (x_Rv q) := x_met l m_X6_holdRow 2 0 0 [(.ref v0), (.int v1), (.int v2)] M (x_Rv q) _ rfl rfl (Nat.le_of_ble_eq_true rfl) (t_X6_holdRow l H)
abbrev m_X6_holdCounter : XU := (yX6_holdCounter, cX6_holdCounter, 2, none)
theorem cn_X6_holdCounter : m_X6_holdCounter.1.cls ≠ "java/lang/invoke/MethodHandle" ∧ m_X6_holdCounter.1.cls ≠ "java/lang/invoke/VarHandle" ∧ (parseMethodDescriptor m_X6_holdCounter.1.desc).map (fun q => q.parameters.length) = some 1 := by decide +kernel
def f_X6_holdCounter (v0 : Nat) (v1 : Int32) (M : XM) : Option XM :=
  if x_tag M v0 = 6 + 10 then (x_lt (x_wi M v0 0 v1) (fun M2 => x_lt (x_wi M2 v0 1 (-1 : Int32)) (fun M5 => x_lt (x_wi M5 v0 2 (0 : Int32)) (fun M8 => some M8)))) else none
set_option maxRecDepth 20000 in
set_option maxHeartbeats 4000000 in
theorem t_X6_holdCounter (l : Launch) {v0 : Nat} {v1 : Int32} {M : XM} {q : XM} (H : f_X6_holdCounter v0 v1 M = some q) : AW l m_X6_holdCounter 1 0 0 (x_Rv q) 0 0 0 [some (.ref v0), some (.int v1)] [] M := by
  unfold f_X6_holdCounter at H
  refine x_aload_n 0 0 dX6_holdCounter_0 rfl rfl ?_
  refine x_iload_n 1 1 dX6_holdCounter_1 rfl rfl ?_
  obtain ⟨h1, H⟩ := x_ckp H
  obtain ⟨M2, w3, H⟩ := x_lt_of H
  have h4 : x_tag M2 v0 = 6 + 10 := by rw [w3]; exact h1
  refine x_putI' 2 9 6 0 dX6_holdCounter_2 lk_339 (by decide) (by decide) rfl (Or.inl rfl) (Or.inl rfl) h1 w3 ?_
  refine x_aload_n 5 0 dX6_holdCounter_5 rfl rfl ?_
  refine x_iconst 6 (-1 : Int32) dX6_holdCounter_6 (by decide) ?_
  obtain ⟨M5, w6, H⟩ := x_lt_of H
  have h7 : x_tag M5 v0 = 6 + 10 := by rw [w6]; exact h4
  refine x_putI' 7 15 6 1 dX6_holdCounter_7 lk_341 (by decide) (by decide) rfl (Or.inl rfl) (Or.inl rfl) h4 w6 ?_
  refine x_aload_n 10 0 dX6_holdCounter_10 rfl rfl ?_
  refine x_iconst 11 (0 : Int32) dX6_holdCounter_11 (by decide) ?_
  obtain ⟨M8, w9, H⟩ := x_lt_of H
  have h10 : x_tag M8 v0 = 6 + 10 := by rw [w9]; exact h7
  refine x_putI' 12 26 6 2 dX6_holdCounter_12 lk_344 (by decide) (by decide) rfl (Or.inl rfl) (Or.inl rfl) h7 w9 ?_
  cases H
  exact x_vret 15 dX6_holdCounter_15 rfl (Nat.le_of_ble_eq_true rfl) (Nat.le_of_ble_eq_true rfl) ⟨rfl, rfl⟩

theorem ct_X6_holdCounter (l : Launch) {v0 : Nat} {v1 : Int32} {M : XM} {q : XM} (H : f_X6_holdCounter v0 v1 M = some q) : Ct l m_X6_holdCounter 1 0 0 [(.ref v0), (.int v1)] M (x_Rv q) := x_met l m_X6_holdCounter 1 0 0 [(.ref v0), (.int v1)] M (x_Rv q) _ rfl rfl (Nat.le_of_ble_eq_true rfl) (t_X6_holdCounter l H)
abbrev m_X6_hasPart : XU := (yX6_hasPart, cX6_hasPart, 3, (some .boolean))
theorem cn_X6_hasPart : m_X6_hasPart.1.cls ≠ "java/lang/invoke/MethodHandle" ∧ m_X6_hasPart.1.cls ≠ "java/lang/invoke/VarHandle" ∧ (parseMethodDescriptor m_X6_hasPart.1.desc).map (fun q => q.parameters.length) = some 2 := by decide +kernel
def f_X6_hasPart (v0 : Nat) (v1 : Int32) (v2 : Int32) (M : XM) : Option (Int32 × XM) :=
  if v1 < 0 then (some ((0 : Int32), M)) else (if v2 < 0 then (some ((0 : Int32), M)) else (if x_tag M v0 = 6 + 10 then (if ((x_i M v0 2) - v1) < v2 then (some ((0 : Int32), M)) else (some ((1 : Int32), M))) else none))
set_option maxRecDepth 20000 in
set_option maxHeartbeats 4000000 in
theorem t_X6_hasPart (l : Launch) {v0 : Nat} {v1 : Int32} {v2 : Int32} {M : XM} {q : Int32 × XM} (H : f_X6_hasPart v0 v1 v2 M = some q) : AW l m_X6_hasPart 1 0 0 (x_Ri q) 0 0 0 [some (.ref v0), some (.int v1), some (.int v2)] [] M := by
  unfold f_X6_hasPart at H
  refine x_iload_n 0 1 dX6_hasPart_0 rfl rfl ?_
  refine x_if_lt 1 22 dX6_hasPart_1 (by decide) (fun c1 => ?_) (fun c1 => ?_)
  · replace H := x_ifp c1 H
    refine x_iconst 22 (0 : Int32) dX6_hasPart_22 (by decide) ?_
    cases H
    exact x_iret 23 dX6_hasPart_23 .boolean rfl rfl (Nat.le_of_ble_eq_true rfl) (Nat.le_of_ble_eq_true rfl) ⟨rfl, rfl⟩
  · replace H := x_ifn c1 H
    refine x_iload_n 4 2 dX6_hasPart_4 rfl rfl ?_
    refine x_if_lt 5 22 dX6_hasPart_5 (by decide) (fun c2 => ?_) (fun c2 => ?_)
    · replace H := x_ifp c2 H
      refine x_iconst 22 (0 : Int32) dX6_hasPart_22 (by decide) ?_
      cases H
      exact x_iret 23 dX6_hasPart_23 .boolean rfl rfl (Nat.le_of_ble_eq_true rfl) (Nat.le_of_ble_eq_true rfl) ⟨rfl, rfl⟩
    · replace H := x_ifn c2 H
      refine x_iload_n 8 2 dX6_hasPart_8 rfl rfl ?_
      refine x_aload_n 9 0 dX6_hasPart_9 rfl rfl ?_
      obtain ⟨h3, H⟩ := x_ckp H
      refine x_getf 10 26 6 2 (.int (x_i M v0 2)) dX6_hasPart_10 lk_344 (by decide) (by decide) rfl (fun _ => rfl) h3 ?_
      refine x_iload_n 13 1 dX6_hasPart_13 rfl rfl ?_
      refine x_isub 14 dX6_hasPart_14 ?_
      refine x_icmp_gt 15 22 dX6_hasPart_15 (by decide) (fun c4 => ?_) (fun c4 => ?_)
      · replace H := x_ifp c4 H
        refine x_iconst 22 (0 : Int32) dX6_hasPart_22 (by decide) ?_
        cases H
        exact x_iret 23 dX6_hasPart_23 .boolean rfl rfl (Nat.le_of_ble_eq_true rfl) (Nat.le_of_ble_eq_true rfl) ⟨rfl, rfl⟩
      · replace H := x_ifn c4 H
        refine x_iconst 18 (1 : Int32) dX6_hasPart_18 (by decide) ?_
        refine x_goto 19 23 dX6_hasPart_19 (by decide) ?_
        cases H
        exact x_iret 23 dX6_hasPart_23 .boolean rfl rfl (Nat.le_of_ble_eq_true rfl) (Nat.le_of_ble_eq_true rfl) ⟨rfl, rfl⟩

theorem ct_X6_hasPart (l : Launch) {v0 : Nat} {v1 : Int32} {v2 : Int32} {M : XM} {q : Int32 × XM} (H : f_X6_hasPart v0 v1 v2 M = some q) : Ct l m_X6_hasPart 1 0 0 [(.ref v0), (.int v1), (.int v2)] M (x_Ri q) := x_met l m_X6_hasPart 1 0 0 [(.ref v0), (.int v1), (.int v2)] M (x_Ri q) _ rfl rfl (Nat.le_of_ble_eq_true rfl) (t_X6_hasPart l H)
abbrev m_X6_become : XU := (yX6_become, cX6_become, 4, none)
theorem cn_X6_become : m_X6_become.1.cls ≠ "java/lang/invoke/MethodHandle" ∧ m_X6_become.1.cls ≠ "java/lang/invoke/VarHandle" ∧ (parseMethodDescriptor m_X6_become.1.desc).map (fun q => q.parameters.length) = some 2 := by decide +kernel
def f_X6_become_c2 (v0 : Nat) (v1 : Int32) (v2 : Int64) (s0 : Int32) (M : XM) : Option XM :=
  if s0 = 0 then (some M) else (if x_tag M v0 = 6 + 10 then (if (x_i M v0 1) = (0 : Int32) then (if x_at M (x_r M v0 3) 2 v1 = true then (x_lt (x_wj M (x_r M v0 3) v1.toNatClampNeg (((v2.toInt32).toInt8.toInt32).toInt64)) (fun M9 => some M9)) else none) else if (x_i M v0 1) = (1 : Int32) then (if x_at M (x_r M v0 3) 2 v1 = true then (x_lt (x_wj M (x_r M v0 3) v1.toNatClampNeg (((v2.toInt32).toInt16.toInt32).toInt64)) (fun M16 => some M16)) else none) else if (x_i M v0 1) = (2 : Int32) then (if x_at M (x_r M v0 3) 2 v1 = true then (x_lt (x_wj M (x_r M v0 3) v1.toNatClampNeg ((v2.toInt32).toInt64)) (fun M23 => some M23)) else none) else if x_at M (x_r M v0 3) 2 v1 = true then (x_lt (x_wj M (x_r M v0 3) v1.toNatClampNeg v2) (fun M29 => some M29)) else none) else none)
set_option maxRecDepth 20000 in
set_option maxHeartbeats 4000000 in
theorem t_X6_become_c2 (l : Launch) {v0 : Nat} {v1 : Int32} {v2 : Int64} {s0 : Int32} {M : XM} {q : XM} (H : f_X6_become_c2 v0 v1 v2 s0 M = some q) : AW l m_X6_become 2 0 0 (x_Rv q) 0 0 5 [some (.ref v0), some (.int v1), some (.long v2), none] [(.int s0)] M := by
  unfold f_X6_become_c2 at H
  refine x_if_ne 5 9 dX6_become_5 (by decide) (fun c5 => ?_) (fun c5 => ?_)
  · replace H := x_ifn c5 H
    refine x_aload_n 9 0 dX6_become_9 rfl rfl ?_
    obtain ⟨h6, H⟩ := x_ckp H
    refine x_getf 10 15 6 1 (.int (x_i M v0 1)) dX6_become_10 lk_341 (by decide) (by decide) rfl (fun _ => rfl) h6 ?_
    by_cases c7 : (x_i M v0 1) = (0 : Int32)
    · replace H := x_ifp c7 H
      refine x_tableIn (off := 27) 13 40 dX6_become_13 (by rw [c7]; decide) (by rw [c7]; decide) (by rw [c7]; rfl) (by decide) ?_
      refine x_aload_n 40 0 dX6_become_40 rfl rfl ?_
      refine x_getf 41 18 6 3 (.ref (x_r M v0 3)) dX6_become_41 lk_346 (by decide) (by decide) rfl (fun _ => rfl) h6 ?_
      refine x_iload_n 44 1 dX6_become_44 rfl rfl ?_
      refine x_lload_n 45 2 dX6_become_45 rfl rfl ?_
      refine x_l2i 46 dX6_become_46 ?_
      refine x_i2b 47 dX6_become_47 ?_
      refine x_i2l 48 dX6_become_48 ?_
      obtain ⟨h8, H⟩ := x_ckp H
      obtain ⟨M9, w10, H⟩ := x_lt_of H
      have h11 : x_tag M9 v0 = 6 + 10 := by rw [w10]; exact h6
      have h12 : x_at M9 (x_r M v0 3) 2 v1 = true := by rw [w10]; exact h8
      have h13 : x_tag M9 (x_r M v0 3) = 2 := by rw [w10]; exact (x_at_1 h8)
      refine x_last' 49 dX6_become_49 h8 w10 ?_
      refine x_goto 50 85 dX6_become_50 (by decide) ?_
      cases H
      exact x_vret 85 dX6_become_85 rfl (Nat.le_of_ble_eq_true rfl) (Nat.le_of_ble_eq_true rfl) ⟨rfl, rfl⟩
    · replace H := x_ifn c7 H
      by_cases c14 : (x_i M v0 1) = (1 : Int32)
      · replace H := x_ifp c14 H
        refine x_tableIn (off := 40) 13 53 dX6_become_13 (by rw [c14]; decide) (by rw [c14]; decide) (by rw [c14]; rfl) (by decide) ?_
        refine x_aload_n 53 0 dX6_become_53 rfl rfl ?_
        refine x_getf 54 18 6 3 (.ref (x_r M v0 3)) dX6_become_54 lk_346 (by decide) (by decide) rfl (fun _ => rfl) h6 ?_
        refine x_iload_n 57 1 dX6_become_57 rfl rfl ?_
        refine x_lload_n 58 2 dX6_become_58 rfl rfl ?_
        refine x_l2i 59 dX6_become_59 ?_
        refine x_i2s 60 dX6_become_60 ?_
        refine x_i2l 61 dX6_become_61 ?_
        obtain ⟨h15, H⟩ := x_ckp H
        obtain ⟨M16, w17, H⟩ := x_lt_of H
        have h18 : x_tag M16 v0 = 6 + 10 := by rw [w17]; exact h6
        have h19 : x_at M16 (x_r M v0 3) 2 v1 = true := by rw [w17]; exact h15
        have h20 : x_tag M16 (x_r M v0 3) = 2 := by rw [w17]; exact (x_at_1 h15)
        refine x_last' 62 dX6_become_62 h15 w17 ?_
        refine x_goto 63 85 dX6_become_63 (by decide) ?_
        cases H
        exact x_vret 85 dX6_become_85 rfl (Nat.le_of_ble_eq_true rfl) (Nat.le_of_ble_eq_true rfl) ⟨rfl, rfl⟩
      · replace H := x_ifn c14 H
        by_cases c21 : (x_i M v0 1) = (2 : Int32)
        · replace H := x_ifp c21 H
          refine x_tableIn (off := 53) 13 66 dX6_become_13 (by rw [c21]; decide) (by rw [c21]; decide) (by rw [c21]; rfl) (by decide) ?_
          refine x_aload_n 66 0 dX6_become_66 rfl rfl ?_
          refine x_getf 67 18 6 3 (.ref (x_r M v0 3)) dX6_become_67 lk_346 (by decide) (by decide) rfl (fun _ => rfl) h6 ?_
          refine x_iload_n 70 1 dX6_become_70 rfl rfl ?_
          refine x_lload_n 71 2 dX6_become_71 rfl rfl ?_
          refine x_l2i 72 dX6_become_72 ?_
          refine x_i2l 73 dX6_become_73 ?_
          obtain ⟨h22, H⟩ := x_ckp H
          obtain ⟨M23, w24, H⟩ := x_lt_of H
          have h25 : x_tag M23 v0 = 6 + 10 := by rw [w24]; exact h6
          have h26 : x_at M23 (x_r M v0 3) 2 v1 = true := by rw [w24]; exact h22
          have h27 : x_tag M23 (x_r M v0 3) = 2 := by rw [w24]; exact (x_at_1 h22)
          refine x_last' 74 dX6_become_74 h22 w24 ?_
          refine x_goto 75 85 dX6_become_75 (by decide) ?_
          cases H
          exact x_vret 85 dX6_become_85 rfl (Nat.le_of_ble_eq_true rfl) (Nat.le_of_ble_eq_true rfl) ⟨rfl, rfl⟩
        · replace H := x_ifn c21 H
          refine x_tableOut 13 78 dX6_become_13 (by have n0 := lv_neT (a := 0) c7 (by decide); have n1 := lv_neT (a := 1) c14 (by decide); have n2 := lv_neT (a := 2) c21 (by decide); omega) (by decide) ?_
          refine x_aload_n 78 0 dX6_become_78 rfl rfl ?_
          refine x_getf 79 18 6 3 (.ref (x_r M v0 3)) dX6_become_79 lk_346 (by decide) (by decide) rfl (fun _ => rfl) h6 ?_
          refine x_iload_n 82 1 dX6_become_82 rfl rfl ?_
          refine x_lload_n 83 2 dX6_become_83 rfl rfl ?_
          obtain ⟨h28, H⟩ := x_ckp H
          obtain ⟨M29, w30, H⟩ := x_lt_of H
          have h31 : x_tag M29 v0 = 6 + 10 := by rw [w30]; exact h6
          have h32 : x_at M29 (x_r M v0 3) 2 v1 = true := by rw [w30]; exact h28
          have h33 : x_tag M29 (x_r M v0 3) = 2 := by rw [w30]; exact (x_at_1 h28)
          refine x_last' 84 dX6_become_84 h28 w30 ?_
          cases H
          exact x_vret 85 dX6_become_85 rfl (Nat.le_of_ble_eq_true rfl) (Nat.le_of_ble_eq_true rfl) ⟨rfl, rfl⟩
  · replace H := x_ifp c5 H
    cases H
    exact x_vret 8 dX6_become_8 rfl (Nat.le_of_ble_eq_true rfl) (Nat.le_of_ble_eq_true rfl) ⟨rfl, rfl⟩

def f_X6_become (v0 : Nat) (v1 : Int32) (v2 : Int64) (M : XM) : Option XM :=
  if x_tag M v0 = 6 + 10 then (x_bd (f_X6_hasElement v0 v1 M) (f_X6_become_c2 v0 v1 v2)) else none
set_option maxRecDepth 20000 in
set_option maxHeartbeats 4000000 in
theorem t_X6_become (l : Launch) {v0 : Nat} {v1 : Int32} {v2 : Int64} {M : XM} {q : XM} (H : f_X6_become v0 v1 v2 M = some q) : AW l m_X6_become 2 0 0 (x_Rv q) 0 0 0 [some (.ref v0), some (.int v1), some (.long v2), none] [] M := by
  unfold f_X6_become at H
  refine x_aload_n 0 0 dX6_become_0 rfl rfl ?_
  refine x_iload_n 1 1 dX6_become_1 rfl rfl ?_
  obtain ⟨h1, H⟩ := x_ckp H
  obtain ⟨r3, M2, e4, H⟩ := x_bd_of H
  refine x_callV 2 35 6 [(.int v1)] [] dX6_become_2 (ct_X6_hasElement l e4) lk_449 lk_442 lk_443 (by decide) h1 lk_93 lk_444 ⟨cn_X6_hasElement, (by decide), by decide⟩ rfl (Nat.le_of_ble_eq_true rfl) (Nat.le_of_ble_eq_true rfl) (Nat.le_of_ble_eq_true rfl) (x_ri ?_)
  exact t_X6_become_c2 l H

theorem ct_X6_become (l : Launch) {v0 : Nat} {v1 : Int32} {v2 : Int64} {M : XM} {q : XM} (H : f_X6_become v0 v1 v2 M = some q) : Ct l m_X6_become 2 0 0 [(.ref v0), (.int v1), (.long v2)] M (x_Rv q) := x_met l m_X6_become 2 0 0 [(.ref v0), (.int v1), (.long v2)] M (x_Rv q) _ rfl rfl (Nat.le_of_ble_eq_true rfl) (t_X6_become l H)
theorem lk_457 : Cond.code yX6_hasPart cX6_hasPart 3 (some .boolean) ∈ x_TB := x_tb (k := 457) (by decide +kernel) rfl
theorem lk_462 : Cond.methodLink RX6 43 yX6_hasPart ∈ x_TB := x_tb (k := 462) (by decide +kernel) rfl
theorem lk_456 : Cond.selects RX6 yX6_hasPart yX6_hasPart ∈ x_TB := x_tb (k := 456) (by decide +kernel) rfl
theorem lk_455 : Cond.instanceMethod yX6_hasPart ∈ x_TB := x_tb (k := 455) (by decide +kernel) rfl
theorem lk_463 : Cond.methodLink RX6 47 arraycopyName ∈ x_TB := x_tb (k := 463) (by decide +kernel) rfl
theorem lk_465 : Cond.native arraycopyName ∈ x_TB := x_tb (k := 465) (by decide +kernel) rfl
theorem lk_464 : Cond.static arraycopyName ∈ x_TB := x_tb (k := 464) (by decide +kernel) rfl
theorem lk_96 : Cond.initialized "java/lang/System" ∈ x_TB := x_tb (k := 96) (by decide +kernel) rfl
abbrev m_X6_takePart : XU := (yX6_takePart, cX6_takePart, 5, none)
theorem cn_X6_takePart : m_X6_takePart.1.cls ≠ "java/lang/invoke/MethodHandle" ∧ m_X6_takePart.1.cls ≠ "java/lang/invoke/VarHandle" ∧ (parseMethodDescriptor m_X6_takePart.1.desc).map (fun q => q.parameters.length) = some 4 := by decide +kernel
def f_X6_takePart_c14 (v0 : Nat) (v1 : Nat) (v2 : Int32) (v3 : Int32) (v4 : Int32) (s0 : Int32) (M : XM) : Option XM :=
  if s0 = 0 then (some M) else (if x_tag M v1 = 6 + 10 then (if x_tag M v0 = 6 + 10 then (if x_cpok M (x_r M v1 3) (x_r M v0 3) v2 v3 v4 = true then (x_lt (x_cpj M (x_r M v1 3) v2.toNatClampNeg (x_r M v0 3) v3.toNatClampNeg v4.toNatClampNeg) (fun M14 => some M14)) else none) else none) else none)
set_option maxRecDepth 20000 in
set_option maxHeartbeats 4000000 in
theorem t_X6_takePart_c14 (l : Launch) {v0 : Nat} {v1 : Nat} {v2 : Int32} {v3 : Int32} {v4 : Int32} {s0 : Int32} {M : XM} {q : XM} (H : f_X6_takePart_c14 v0 v1 v2 v3 v4 s0 M = some q) : AW l m_X6_takePart 2 0 0 (x_Rv q) 0 0 17 [some (.ref v0), some (.ref v1), some (.int v2), some (.int v3), some (.int v4)] [(.int s0)] M := by
  unfold f_X6_takePart_c14 at H
  refine x_if_eq 17 35 dX6_takePart_17 (by decide) (fun c10 => ?_) (fun c10 => ?_)
  · replace H := x_ifp c10 H
    cases H
    exact x_vret 35 dX6_takePart_35 rfl (Nat.le_of_ble_eq_true rfl) (Nat.le_of_ble_eq_true rfl) ⟨rfl, rfl⟩
  · replace H := x_ifn c10 H
    refine x_aload_n 20 1 dX6_takePart_20 rfl rfl ?_
    obtain ⟨h11, H⟩ := x_ckp H
    refine x_getf 21 18 6 3 (.ref (x_r M v1 3)) dX6_takePart_21 lk_346 (by decide) (by decide) rfl (fun _ => rfl) h11 ?_
    refine x_iload_n 24 2 dX6_takePart_24 rfl rfl ?_
    refine x_aload_n 25 0 dX6_takePart_25 rfl rfl ?_
    obtain ⟨h12, H⟩ := x_ckp H
    refine x_getf 26 18 6 3 (.ref (x_r M v0 3)) dX6_takePart_26 lk_346 (by decide) (by decide) rfl (fun _ => rfl) h12 ?_
    refine x_iload_n 29 3 dX6_takePart_29 rfl rfl ?_
    refine x_iload 30 4 dX6_takePart_30 rfl ?_
    obtain ⟨h13, H⟩ := x_ckp H
    obtain ⟨M14, w15, H⟩ := x_lt_of H
    have h16 : x_tag M14 v1 = 6 + 10 := by rw [w15]; exact h11
    have h17 : x_tag M14 v0 = 6 + 10 := by rw [w15]; exact h12
    refine x_acopy' 32 47 dX6_takePart_32 lk_463 lk_465 lk_464 lk_96 rfl (Nat.le_of_ble_eq_true rfl) (by decide) h13 w15 ?_
    cases H
    exact x_vret 35 dX6_takePart_35 rfl (Nat.le_of_ble_eq_true rfl) (Nat.le_of_ble_eq_true rfl) ⟨rfl, rfl⟩

def f_X6_takePart_c4 (v0 : Nat) (v1 : Nat) (v2 : Int32) (v3 : Int32) (v4 : Int32) (s0 : Int32) (M : XM) : Option XM :=
  if s0 = 0 then (some M) else (if x_tag M v0 = 6 + 10 then (x_bd (f_X6_hasPart v0 v3 v4 M) (f_X6_takePart_c14 v0 v1 v2 v3 v4)) else none)
set_option maxRecDepth 20000 in
set_option maxHeartbeats 4000000 in
theorem t_X6_takePart_c4 (l : Launch) {v0 : Nat} {v1 : Nat} {v2 : Int32} {v3 : Int32} {v4 : Int32} {s0 : Int32} {M : XM} {q : XM} (H : f_X6_takePart_c4 v0 v1 v2 v3 v4 s0 M = some q) : AW l m_X6_takePart 2 0 0 (x_Rv q) 0 0 7 [some (.ref v0), some (.ref v1), some (.int v2), some (.int v3), some (.int v4)] [(.int s0)] M := by
  unfold f_X6_takePart_c4 at H
  refine x_if_eq 7 35 dX6_takePart_7 (by decide) (fun c5 => ?_) (fun c5 => ?_)
  · replace H := x_ifp c5 H
    cases H
    exact x_vret 35 dX6_takePart_35 rfl (Nat.le_of_ble_eq_true rfl) (Nat.le_of_ble_eq_true rfl) ⟨rfl, rfl⟩
  · replace H := x_ifn c5 H
    refine x_aload_n 10 0 dX6_takePart_10 rfl rfl ?_
    refine x_iload_n 11 3 dX6_takePart_11 rfl rfl ?_
    refine x_iload 12 4 dX6_takePart_12 rfl ?_
    obtain ⟨h6, H⟩ := x_ckp H
    obtain ⟨r8, M7, e9, H⟩ := x_bd_of H
    refine x_callV 14 43 6 [(.int v3), (.int v4)] [] dX6_takePart_14 (ct_X6_hasPart l e9) lk_462 lk_455 lk_456 (by decide) h6 lk_93 lk_457 ⟨cn_X6_hasPart, (by decide), by decide⟩ rfl (Nat.le_of_ble_eq_true rfl) (Nat.le_of_ble_eq_true rfl) (Nat.le_of_ble_eq_true rfl) (x_ri ?_)
    exact t_X6_takePart_c14 l H

def f_X6_takePart (v0 : Nat) (v1 : Nat) (v2 : Int32) (v3 : Int32) (v4 : Int32) (M : XM) : Option XM :=
  if x_tag M v1 = 6 + 10 then (x_bd (f_X6_hasPart v1 v2 v4 M) (f_X6_takePart_c4 v0 v1 v2 v3 v4)) else none
set_option maxRecDepth 20000 in
set_option maxHeartbeats 4000000 in
theorem t_X6_takePart (l : Launch) {v0 : Nat} {v1 : Nat} {v2 : Int32} {v3 : Int32} {v4 : Int32} {M : XM} {q : XM} (H : f_X6_takePart v0 v1 v2 v3 v4 M = some q) : AW l m_X6_takePart 2 0 0 (x_Rv q) 0 0 0 [some (.ref v0), some (.ref v1), some (.int v2), some (.int v3), some (.int v4)] [] M := by
  unfold f_X6_takePart at H
  refine x_aload_n 0 1 dX6_takePart_0 rfl rfl ?_
  refine x_iload_n 1 2 dX6_takePart_1 rfl rfl ?_
  refine x_iload 2 4 dX6_takePart_2 rfl ?_
  obtain ⟨h1, H⟩ := x_ckp H
  obtain ⟨r3, M2, e4, H⟩ := x_bd_of H
  refine x_callV 4 43 6 [(.int v2), (.int v4)] [] dX6_takePart_4 (ct_X6_hasPart l e4) lk_462 lk_455 lk_456 (by decide) h1 lk_93 lk_457 ⟨cn_X6_hasPart, (by decide), by decide⟩ rfl (Nat.le_of_ble_eq_true rfl) (Nat.le_of_ble_eq_true rfl) (Nat.le_of_ble_eq_true rfl) (x_ri ?_)
  exact t_X6_takePart_c4 l H

theorem ct_X6_takePart (l : Launch) {v0 : Nat} {v1 : Nat} {v2 : Int32} {v3 : Int32} {v4 : Int32} {M : XM} {q : XM} (H : f_X6_takePart v0 v1 v2 v3 v4 M = some q) : Ct l m_X6_takePart 2 0 0 [(.ref v0), (.ref v1), (.int v2), (.int v3), (.int v4)] M (x_Rv q) := x_met l m_X6_takePart 2 0 0 [(.ref v0), (.ref v1), (.int v2), (.int v3), (.int v4)] M (x_Rv q) _ rfl rfl (Nat.le_of_ble_eq_true rfl) (t_X6_takePart l H)
theorem lk_236 : Cond.methodLink RX7 3 Lib.objectInit ∈ x_TB := x_tb (k := 236) (by decide +kernel) rfl
theorem lk_237 : Cond.classLink RX7 9 RX2 ∈ x_TB := x_tb (k := 237) (by decide +kernel) rfl
theorem lk_239 : Cond.fieldLink RX7 12 RX7 "who" "LWhatDidYouSay$Counter;" ∈ x_TB := x_tb (k := 239) (by decide +kernel) rfl
theorem lk_241 : Cond.fieldLink RX7 18 RX7 "breaks" "[I" ∈ x_TB := x_tb (k := 241) (by decide +kernel) rfl
abbrev m_X7_init : XU := (yX7_init, cX7_init, 1, none)
theorem cn_X7_init : m_X7_init.1.cls ≠ "java/lang/invoke/MethodHandle" ∧ m_X7_init.1.cls ≠ "java/lang/invoke/VarHandle" ∧ (parseMethodDescriptor m_X7_init.1.desc).map (fun q => q.parameters.length) = some 0 := by decide +kernel
def f_X7_init_c9 (v0 : Nat) (s0 : Nat) (s1 : Nat) (M : XM) : Option XM :=
  if x_tag M s1 = 7 + 10 then (x_lt (x_wr M s1 0 s0) (fun M11 => x_al M11 1 40 (fun a15 M14 => if x_tag M14 v0 = 7 + 10 then (x_lt (x_wr M14 v0 1 a15) (fun M20 => some M20)) else none))) else none
set_option maxRecDepth 20000 in
set_option maxHeartbeats 4000000 in
theorem t_X7_init_c9 (l : Launch) {v0 : Nat} {s0 : Nat} {s1 : Nat} {M : XM} {q : XM} (H : f_X7_init_c9 v0 s0 s1 M = some q) : AW l m_X7_init 2 2 45 (x_Rv q) 1 5 12 [some (.ref v0)] [(.ref s0), (.ref s1)] M := by
  unfold f_X7_init_c9 at H
  obtain ⟨h10, H⟩ := x_ckp H
  obtain ⟨M11, w12, H⟩ := x_lt_of H
  have h13 : x_tag M11 s1 = 7 + 10 := by rw [w12]; exact h10
  refine x_putR' 12 12 7 0 dX7_init_12 lk_239 (by decide) (by decide) rfl (Or.inl ⟨_, rfl⟩) (Or.inr ⟨rfl, rfl⟩) h10 w12 ?_
  refine x_aload_n 15 0 dX7_init_15 rfl rfl ?_
  refine x_bipush 16 (40 : Int32) dX7_init_16 (by decide) ?_
  obtain ⟨a15, M14, w16, w17, H⟩ := x_al_of H
  refine x_newI' 18 40 dX7_init_18 lk_153 (by decide) (by decide) (by decide) (Nat.le_of_ble_eq_true rfl) (Nat.le_of_ble_eq_true rfl) w16 w17 ?_
  have h18 : x_tag M14 a15 = 1 := x_al_tag w16 w17
  change AW _ _ _ _ _ _ 2 45 _ _ _ _
  obtain ⟨h19, H⟩ := x_ckp H
  obtain ⟨M20, w21, H⟩ := x_lt_of H
  have h22 : x_tag M20 a15 = 1 := by rw [w21]; exact h18
  have h23 : x_tag M20 v0 = 7 + 10 := by rw [w21]; exact h19
  refine x_putR' 20 18 7 1 dX7_init_20 lk_241 (by decide) (by decide) rfl (Or.inr ⟨_, rfl⟩) (Or.inr ⟨rfl, rfl⟩) h19 w21 ?_
  cases H
  exact x_vret 23 dX7_init_23 rfl (Nat.le_of_ble_eq_true rfl) (Nat.le_of_ble_eq_true rfl) ⟨rfl, rfl⟩

def f_X7_init (v0 : Nat) (M : XM) : Option XM :=
  if x_tag M v0 = 7 + 10 then (x_al M (2 + 10) 0 (fun a3 M2 => x_bv (f_X2_init a3 M2) (f_X7_init_c9 v0 a3 v0))) else none
set_option maxRecDepth 20000 in
set_option maxHeartbeats 4000000 in
theorem t_X7_init (l : Launch) {v0 : Nat} {M : XM} {q : XM} (H : f_X7_init v0 M = some q) : AW l m_X7_init 2 2 45 (x_Rv q) 0 0 0 [some (.ref v0)] [] M := by
  unfold f_X7_init at H
  refine x_aload_n 0 0 dX7_init_0 rfl rfl ?_
  obtain ⟨h1, H⟩ := x_ckp H
  refine x_objInit 1 3 dX7_init_1 lk_236 lk_108 lk_109 h1 rfl (Nat.le_of_ble_eq_true rfl) (by decide) ?_
  refine x_aload_n 4 0 dX7_init_4 rfl rfl ?_
  obtain ⟨a3, M2, w4, w5, H⟩ := x_al_of H
  refine x_newc' 5 9 2 dX7_init_5 (by decide) lk_237 lk_118 lk_87 (Nat.le_of_ble_eq_true rfl) (Nat.le_of_ble_eq_true rfl) w4 w5 ?_
  have h6 : x_tag M2 a3 = 2 + 10 := x_al_tag w4 w5
  change AW _ _ _ _ _ _ 1 5 _ _ _ _
  refine x_dup 8 dX7_init_8 rfl ?_
  obtain ⟨M7, e9, H⟩ := x_bv_of H
  refine x_callIN 9 11 [] [(.ref a3), (.ref v0)] dX7_init_9 (ct_X2_init l e9) (List.mem_of_getElem? (i := 2) rfl) rfl rfl lk_120 h6 lk_87 lk_121 ⟨cn_X2_init, (by decide), by decide⟩ rfl (Nat.le_of_ble_eq_true rfl) (Nat.le_of_ble_eq_true rfl) (Nat.le_of_ble_eq_true rfl) (x_rv ?_)
  exact t_X7_init_c9 l H

theorem ct_X7_init (l : Launch) {v0 : Nat} {M : XM} {q : XM} (H : f_X7_init v0 M = some q) : Ct l m_X7_init 2 2 45 [(.ref v0)] M (x_Rv q) := x_met l m_X7_init 2 2 45 [(.ref v0)] M (x_Rv q) _ rfl rfl (Nat.le_of_ble_eq_true rfl) (t_X7_init l H)
theorem lk_156 : Cond.fieldLink RX7 22 RX4 "counters" "[LWhatDidYouSay$Counter;" ∈ x_TB := x_tb (k := 156) (by decide +kernel) rfl
theorem lk_747 : Cond.methodLink RX7 28 yX2_becomeLike ∈ x_TB := x_tb (k := 747) (by decide +kernel) rfl
theorem lk_163 : Cond.fieldLink RX7 32 RX4 "n" "I" ∈ x_TB := x_tb (k := 163) (by decide +kernel) rfl
theorem lk_245 : Cond.fieldLink RX7 36 RX7 "n" "I" ∈ x_TB := x_tb (k := 245) (by decide +kernel) rfl
theorem lk_169 : Cond.fieldLink RX7 37 RX4 "apart" "I" ∈ x_TB := x_tb (k := 169) (by decide +kernel) rfl
theorem lk_246 : Cond.fieldLink RX7 40 RX7 "apart" "I" ∈ x_TB := x_tb (k := 246) (by decide +kernel) rfl
theorem lk_748 : Cond.methodLink RX7 41 Lib.Math.min.name ∈ x_TB := x_tb (k := 748) (by decide +kernel) rfl
theorem lk_242 : Cond.fieldLink RX7 47 RX7 "told" "I" ∈ x_TB := x_tb (k := 242) (by decide +kernel) rfl
theorem lk_243 : Cond.fieldLink RX7 56 RX7 "next" "I" ∈ x_TB := x_tb (k := 243) (by decide +kernel) rfl
theorem lk_244 : Cond.fieldLink RX7 59 RX7 "second" "I" ∈ x_TB := x_tb (k := 244) (by decide +kernel) rfl
theorem lk_749 : Cond.methodLink RX7 50 yX6_intAt ∈ x_TB := x_tb (k := 749) (by decide +kernel) rfl
abbrev m_X7_begin : XU := (yX7_begin, cX7_begin, 6, none)
theorem cn_X7_begin : m_X7_begin.1.cls ≠ "java/lang/invoke/MethodHandle" ∧ m_X7_begin.1.cls ≠ "java/lang/invoke/VarHandle" ∧ (parseMethodDescriptor m_X7_begin.1.desc).map (fun q => q.parameters.length) = some 4 := by decide +kernel
def f_X7_begin_c64 (κ46 : Nat → Nat → Int32 → XM → Option XM) (v0 : Nat) (v3 : Nat) (v5 : Int32) (s1 : Int32) (s2 : Nat) (s0 : Int32) (M : XM) : Option XM :=
  if x_at M s2 1 s1 = true then (x_lt (x_wi M s2 s1.toNatClampNeg s0) (fun M37 => κ46 v0 v3 (v5 + (1 : Int32)) M37)) else none
set_option maxRecDepth 20000 in
set_option maxHeartbeats 4000000 in
theorem t_X7_begin_c64 (l : Launch) {κ46 : Nat → Nat → Int32 → XM → Option XM} {v0 : Nat} {v3 : Nat} {v5 : Int32} {s1 : Int32} {s2 : Nat} {s0 : Int32} {M : XM} {q : XM} (hκ46 : ∀ (v0 : Nat) (v3 : Nat) (v5 : Int32) (M : XM), κ46 v0 v3 v5 M = some q → AW l m_X7_begin 4 0 0 (x_Rv q) 0 0 46 [some (.ref v0), none, none, some (.ref v3), none, some (.int v5)] [] M) (H : f_X7_begin_c64 κ46 v0 v3 v5 s1 s2 s0 M = some q) : AW l m_X7_begin 4 0 0 (x_Rv q) 0 0 67 [some (.ref v0), none, none, some (.ref v3), none, some (.int v5)] [(.int s0), (.int s1), (.ref s2)] M := by
  unfold f_X7_begin_c64 at H
  obtain ⟨h36, H⟩ := x_ckp H
  obtain ⟨M37, w38, H⟩ := x_lt_of H
  have h39 : x_at M37 s2 1 s1 = true := by rw [w38]; exact h36
  have h40 : x_tag M37 s2 = 1 := by rw [w38]; exact (x_at_1 h36)
  refine x_iast' 67 dX7_begin_67 h36 w38 ?_
  refine x_iinc 68 5 (v5 + (1 : Int32)) [some (.ref v0), none, none, some (.ref v3), none, some (.int (v5 + (1 : Int32)))] dX7_begin_68 rfl (congrArg (fun z : Int32 => v5 + z) (show Int32.ofInt (1) = (1 : Int32) by decide)) rfl (Nat.le_of_ble_eq_true rfl) rfl ?_
  refine x_goto 71 46 dX7_begin_71 (by decide) ?_
  exact hκ46 _ _ _ _ H

def bd_X7_begin_46 (κ46 : Nat → Nat → Int32 → XM → Option XM) (v0 : Nat) (v3 : Nat) (v5 : Int32) (M : XM) : Option XM :=
  if x_tag M v0 = 7 + 10 then (if (x_i M v0 2) ≤ v5 then (x_lt (x_wi M v0 3 (0 : Int32)) (fun M26 => x_lt (x_wi M26 v0 4 (0 : Int32)) (fun M29 => some M29))) else (if x_tag M v3 = 6 + 10 then (x_bd (f_X6_intAt v3 v5 M) (f_X7_begin_c64 κ46 v0 v3 v5 v5 (x_r M v0 1))) else none)) else none
set_option maxRecDepth 20000 in
set_option maxHeartbeats 4000000 in
theorem tb_X7_begin_46 (l : Launch) {κ46 : Nat → Nat → Int32 → XM → Option XM} {v0 : Nat} {v3 : Nat} {v5 : Int32} {M : XM} {q : XM} (hκ46 : ∀ (v0 : Nat) (v3 : Nat) (v5 : Int32) (M : XM), κ46 v0 v3 v5 M = some q → AW l m_X7_begin 4 0 0 (x_Rv q) 0 0 46 [some (.ref v0), none, none, some (.ref v3), none, some (.int v5)] [] M) (H : bd_X7_begin_46 κ46 v0 v3 v5 M = some q) : AW l m_X7_begin 4 0 0 (x_Rv q) 0 0 46 [some (.ref v0), none, none, some (.ref v3), none, some (.int v5)] [] M := by
  unfold bd_X7_begin_46 at H
  refine x_iload 46 5 dX7_begin_46 rfl ?_
  refine x_aload_n 48 0 dX7_begin_48 rfl rfl ?_
  obtain ⟨h24, H⟩ := x_ckp H
  refine x_getf 49 47 7 2 (.int (x_i M v0 2)) dX7_begin_49 lk_242 (by decide) (by decide) rfl (fun _ => rfl) h24 ?_
  refine x_icmp_ge 52 74 dX7_begin_52 (by decide) (fun c25 => ?_) (fun c25 => ?_)
  · replace H := x_ifp c25 H
    refine x_aload_n 74 0 dX7_begin_74 rfl rfl ?_
    refine x_iconst 75 (0 : Int32) dX7_begin_75 (by decide) ?_
    obtain ⟨M26, w27, H⟩ := x_lt_of H
    have h28 : x_tag M26 v0 = 7 + 10 := by rw [w27]; exact h24
    refine x_putI' 76 56 7 3 dX7_begin_76 lk_243 (by decide) (by decide) rfl (Or.inl rfl) (Or.inl rfl) h24 w27 ?_
    refine x_aload_n 79 0 dX7_begin_79 rfl rfl ?_
    refine x_iconst 80 (0 : Int32) dX7_begin_80 (by decide) ?_
    obtain ⟨M29, w30, H⟩ := x_lt_of H
    have h31 : x_tag M29 v0 = 7 + 10 := by rw [w30]; exact h28
    refine x_putI' 81 59 7 4 dX7_begin_81 lk_244 (by decide) (by decide) rfl (Or.inl rfl) (Or.inl rfl) h28 w30 ?_
    cases H
    exact x_vret 84 dX7_begin_84 rfl (Nat.le_of_ble_eq_true rfl) (Nat.le_of_ble_eq_true rfl) ⟨rfl, rfl⟩
  · replace H := x_ifn c25 H
    refine x_aload_n 55 0 dX7_begin_55 rfl rfl ?_
    refine x_getf 56 18 7 1 (.ref (x_r M v0 1)) dX7_begin_56 lk_241 (by decide) (by decide) rfl (fun _ => rfl) h24 ?_
    refine x_iload 59 5 dX7_begin_59 rfl ?_
    refine x_aload_n 61 3 dX7_begin_61 rfl rfl ?_
    refine x_iload 62 5 dX7_begin_62 rfl ?_
    obtain ⟨h32, H⟩ := x_ckp H
    obtain ⟨r34, M33, e35, H⟩ := x_bd_of H
    refine x_callV 64 50 6 [(.int v5)] [(.int v5), (.ref (x_r M v0 1))] dX7_begin_64 (ct_X6_intAt l e35) lk_749 lk_582 lk_583 (by decide) h32 lk_93 lk_584 ⟨cn_X6_intAt, (by decide), by decide⟩ rfl (Nat.le_of_ble_eq_true rfl) (Nat.le_of_ble_eq_true rfl) (Nat.le_of_ble_eq_true rfl) (x_ri ?_)
    exact t_X7_begin_c64 l hκ46 H

def lp_X7_begin_46 (n : Nat) : Nat → Nat → Int32 → XM → Option XM := x_rec (fun _ _ _ _ => none) (bd_X7_begin_46) n
theorem t_X7_begin_46 (l : Launch) {q : XM} : ∀ (n : Nat) (v0 : Nat) (v3 : Nat) (v5 : Int32) (M : XM), lp_X7_begin_46 n v0 v3 v5 M = some q → AW l m_X7_begin 4 0 0 (x_Rv q) 0 0 46 [some (.ref v0), none, none, some (.ref v3), none, some (.int v5)] [] M := by
  intro n
  induction n with
  | zero => intro v0 v3 v5 M H; cases H
  | succ n ih => intro v0 v3 v5 M H; exact tb_X7_begin_46 l ih H
def f_X7_begin_c10 (v0 : Nat) (v1 : Nat) (v3 : Nat) (v4 : Int32) (M : XM) : Option XM :=
  if x_tag M v1 = 4 + 10 then (if x_tag M v0 = 7 + 10 then (x_lt (x_wi M v0 5 (x_i M v1 2)) (fun M10 => x_lt (x_wi M10 v0 6 (x_i M10 v1 3)) (fun M14 => if x_tag M14 (x_r M14 v0 1) = 1 then (x_lt (x_wi M14 v0 2 (if (Int32.ofNat (x_len M14 (x_r M14 v0 1))) < v4 then (Int32.ofNat (x_len M14 (x_r M14 v0 1))) else v4)) (fun M19 => lp_X7_begin_46 x_fuel v0 v3 (0 : Int32) M19)) else none))) else none) else none
set_option maxRecDepth 20000 in
set_option maxHeartbeats 4000000 in
theorem t_X7_begin_c10 (l : Launch) {v0 : Nat} {v1 : Nat} {v3 : Nat} {v4 : Int32} {M : XM} {q : XM} (H : f_X7_begin_c10 v0 v1 v3 v4 M = some q) : AW l m_X7_begin 4 0 0 (x_Rv q) 0 0 13 [some (.ref v0), some (.ref v1), none, some (.ref v3), some (.int v4), none] [] M := by
  unfold f_X7_begin_c10 at H
  refine x_aload_n 13 0 dX7_begin_13 rfl rfl ?_
  refine x_aload_n 14 1 dX7_begin_14 rfl rfl ?_
  obtain ⟨h8, H⟩ := x_ckp H
  refine x_getf 15 32 4 2 (.int (x_i M v1 2)) dX7_begin_15 lk_163 (by decide) (by decide) rfl (fun _ => rfl) h8 ?_
  obtain ⟨h9, H⟩ := x_ckp H
  obtain ⟨M10, w11, H⟩ := x_lt_of H
  have h12 : x_tag M10 v1 = 4 + 10 := by rw [w11]; exact h8
  have h13 : x_tag M10 v0 = 7 + 10 := by rw [w11]; exact h9
  refine x_putI' 18 36 7 5 dX7_begin_18 lk_245 (by decide) (by decide) rfl (Or.inl rfl) (Or.inl rfl) h9 w11 ?_
  refine x_aload_n 21 0 dX7_begin_21 rfl rfl ?_
  refine x_aload_n 22 1 dX7_begin_22 rfl rfl ?_
  refine x_getf 23 37 4 3 (.int (x_i M10 v1 3)) dX7_begin_23 lk_169 (by decide) (by decide) rfl (fun _ => rfl) h12 ?_
  obtain ⟨M14, w15, H⟩ := x_lt_of H
  have h16 : x_tag M14 v1 = 4 + 10 := by rw [w15]; exact h12
  have h17 : x_tag M14 v0 = 7 + 10 := by rw [w15]; exact h13
  refine x_putI' 26 40 7 6 dX7_begin_26 lk_246 (by decide) (by decide) rfl (Or.inl rfl) (Or.inl rfl) h13 w15 ?_
  refine x_aload_n 29 0 dX7_begin_29 rfl rfl ?_
  refine x_iload 30 4 dX7_begin_30 rfl ?_
  refine x_aload_n 32 0 dX7_begin_32 rfl rfl ?_
  refine x_getf 33 18 7 1 (.ref (x_r M14 v0 1)) dX7_begin_33 lk_241 (by decide) (by decide) rfl (fun _ => rfl) h17 ?_
  obtain ⟨h18, H⟩ := x_ckp H
  refine x_alen 36 1 dX7_begin_36 h18 (by decide) ?_
  refine x_min 37 41 dX7_begin_37 lk_748 lk_558 lk_97 lk_559 rfl (Nat.le_of_ble_eq_true rfl) (by decide) (Nat.le_of_ble_eq_true rfl) (Nat.le_of_ble_eq_true rfl) ?_
  obtain ⟨M19, w20, H⟩ := x_lt_of H
  have h21 : x_tag M19 v1 = 4 + 10 := by rw [w20]; exact h16
  have h22 : x_tag M19 v0 = 7 + 10 := by rw [w20]; exact h17
  have h23 : x_tag M19 (x_r M14 v0 1) = 1 := by rw [w20]; exact h18
  refine x_putI' 40 47 7 2 dX7_begin_40 lk_242 (by decide) (by decide) rfl (Or.inl rfl) (Or.inl rfl) h17 w20 ?_
  refine x_iconst 43 (0 : Int32) dX7_begin_43 (by decide) ?_
  refine x_istore 44 5 [some (.ref v0), some (.ref v1), none, some (.ref v3), some (.int v4), some (.int (0 : Int32))] dX7_begin_44 rfl (Nat.le_of_ble_eq_true rfl) rfl ?_
  exact x_wk (le_s (le_n (le_s (le_s (le_n (le_s le_0)))))) (t_X7_begin_46 l _ _ _ _ _ H)

def f_X7_begin (v0 : Nat) (v1 : Nat) (v2 : Int32) (v3 : Nat) (v4 : Int32) (M : XM) : Option XM :=
  if x_tag M v0 = 7 + 10 then (if x_tag M v1 = 4 + 10 then (if x_at M (x_r M v1 0) 3 v2 = true then (if x_tag M (x_r M v0 0) = 2 + 10 then (x_bv (f_X2_becomeLike (x_r M v0 0) (x_r M (x_r M v1 0) v2.toNatClampNeg) M) (f_X7_begin_c10 v0 v1 v3 v4)) else none) else none) else none) else none
set_option maxRecDepth 20000 in
set_option maxHeartbeats 4000000 in
theorem t_X7_begin (l : Launch) {v0 : Nat} {v1 : Nat} {v2 : Int32} {v3 : Nat} {v4 : Int32} {M : XM} {q : XM} (H : f_X7_begin v0 v1 v2 v3 v4 M = some q) : AW l m_X7_begin 4 0 0 (x_Rv q) 0 0 0 [some (.ref v0), some (.ref v1), some (.int v2), some (.ref v3), some (.int v4), none] [] M := by
  unfold f_X7_begin at H
  refine x_aload_n 0 0 dX7_begin_0 rfl rfl ?_
  obtain ⟨h1, H⟩ := x_ckp H
  refine x_getf 1 12 7 0 (.ref (x_r M v0 0)) dX7_begin_1 lk_239 (by decide) (by decide) rfl (fun _ => rfl) h1 ?_
  refine x_aload_n 4 1 dX7_begin_4 rfl rfl ?_
  obtain ⟨h2, H⟩ := x_ckp H
  refine x_getf 5 22 4 0 (.ref (x_r M v1 0)) dX7_begin_5 lk_156 (by decide) (by decide) rfl (fun _ => rfl) h2 ?_
  refine x_iload_n 8 2 dX7_begin_8 rfl rfl ?_
  obtain ⟨h3, H⟩ := x_ckp H
  refine x_aald3 9 dX7_begin_9 h3 ?_
  obtain ⟨h4, H⟩ := x_ckp H
  obtain ⟨M5, e7, H⟩ := x_bv_of H
  refine x_callV 10 28 2 [(.ref (x_r M (x_r M v1 0) v2.toNatClampNeg))] [] dX7_begin_10 (ct_X2_becomeLike l e7) lk_747 lk_573 lk_574 (by decide) h4 lk_87 lk_575 ⟨cn_X2_becomeLike, (by decide), by decide⟩ rfl (Nat.le_of_ble_eq_true rfl) (Nat.le_of_ble_eq_true rfl) (Nat.le_of_ble_eq_true rfl) (x_rv ?_)
  exact x_wk (le_s (le_s (le_n (le_s (le_s (le_s le_0)))))) (t_X7_begin_c10 l H)

theorem ct_X7_begin (l : Launch) {v0 : Nat} {v1 : Nat} {v2 : Int32} {v3 : Nat} {v4 : Int32} {M : XM} {q : XM} (H : f_X7_begin v0 v1 v2 v3 v4 M = some q) : Ct l m_X7_begin 4 0 0 [(.ref v0), (.ref v1), (.int v2), (.ref v3), (.int v4)] M (x_Rv q) := x_met l m_X7_begin 4 0 0 [(.ref v0), (.ref v1), (.int v2), (.ref v3), (.int v4)] M (x_Rv q) _ rfl rfl (Nat.le_of_ble_eq_true rfl) (t_X7_begin l H)
theorem lk_132 : Cond.fieldLink RX7 62 RX2 "at" "I" ∈ x_TB := x_tb (k := 132) (by decide +kernel) rfl
theorem lk_754 : Cond.methodLink RX7 65 yX2_hear ∈ x_TB := x_tb (k := 754) (by decide +kernel) rfl
abbrev m_X7_step : XU := (yX7_step, cX7_step, 2, none)
theorem cn_X7_step : m_X7_step.1.cls ≠ "java/lang/invoke/MethodHandle" ∧ m_X7_step.1.cls ≠ "java/lang/invoke/VarHandle" ∧ (parseMethodDescriptor m_X7_step.1.desc).map (fun q => q.parameters.length) = some 0 := by decide +kernel
def f_X7_step_57 (v0 : Nat) (v1 : Int32) (M : XM) : Option XM :=
  if x_tag M v0 = 7 + 10 then (if x_tag M (x_r M v0 0) = 2 + 10 then (if (x_i M (x_r M v0 0) 2) < (x_i M v0 5) then (if v1 = 0 then (x_lt (x_wi M (x_r M v0 0) 2 ((x_i M (x_r M v0 0) 2) + (1 : Int32))) (fun M11 => some M11)) else (x_bv (f_X2_hear (x_r M v0 0) (x_i M v0 6) M) (fun M15 => some M15))) else (some M)) else none) else none
set_option maxRecDepth 20000 in
set_option maxHeartbeats 4000000 in
theorem t_X7_step_57 (l : Launch) {v0 : Nat} {v1 : Int32} {M : XM} {q : XM} (H : f_X7_step_57 v0 v1 M = some q) : AW l m_X7_step 3 0 0 (x_Rv q) 0 0 57 [some (.ref v0), some (.int v1)] [] M := by
  unfold f_X7_step_57 at H
  refine x_aload_n 57 0 dX7_step_57 rfl rfl ?_
  obtain ⟨h7, H⟩ := x_ckp H
  refine x_getf 58 12 7 0 (.ref (x_r M v0 0)) dX7_step_58 lk_239 (by decide) (by decide) rfl (fun _ => rfl) h7 ?_
  obtain ⟨h8, H⟩ := x_ckp H
  refine x_getf 61 62 2 2 (.int (x_i M (x_r M v0 0) 2)) dX7_step_61 lk_132 (by decide) (by decide) rfl (fun _ => rfl) h8 ?_
  refine x_aload_n 64 0 dX7_step_64 rfl rfl ?_
  refine x_getf 65 36 7 5 (.int (x_i M v0 5)) dX7_step_65 lk_245 (by decide) (by decide) rfl (fun _ => rfl) h7 ?_
  refine x_icmp_lt 68 72 dX7_step_68 (by decide) (fun c9 => ?_) (fun c9 => ?_)
  · replace H := x_ifp c9 H
    refine x_iload_n 72 1 dX7_step_72 rfl rfl ?_
    refine x_if_eq 73 90 dX7_step_73 (by decide) (fun c10 => ?_) (fun c10 => ?_)
    · replace H := x_ifp c10 H
      refine x_aload_n 90 0 dX7_step_90 rfl rfl ?_
      refine x_getf 91 12 7 0 (.ref (x_r M v0 0)) dX7_step_91 lk_239 (by decide) (by decide) rfl (fun _ => rfl) h7 ?_
      refine x_dup 94 dX7_step_94 rfl ?_
      refine x_getf 95 62 2 2 (.int (x_i M (x_r M v0 0) 2)) dX7_step_95 lk_132 (by decide) (by decide) rfl (fun _ => rfl) h8 ?_
      refine x_iconst 98 (1 : Int32) dX7_step_98 (by decide) ?_
      refine x_iadd 99 dX7_step_99 ?_
      obtain ⟨M11, w12, H⟩ := x_lt_of H
      have h13 : x_tag M11 v0 = 7 + 10 := by rw [w12]; exact h7
      have h14 : x_tag M11 (x_r M v0 0) = 2 + 10 := by rw [w12]; exact h8
      refine x_putI' 100 62 2 2 dX7_step_100 lk_132 (by decide) (by decide) rfl (Or.inl rfl) (Or.inl rfl) h8 w12 ?_
      cases H
      exact x_vret 103 dX7_step_103 rfl (Nat.le_of_ble_eq_true rfl) (Nat.le_of_ble_eq_true rfl) ⟨rfl, rfl⟩
    · replace H := x_ifn c10 H
      refine x_aload_n 76 0 dX7_step_76 rfl rfl ?_
      refine x_getf 77 12 7 0 (.ref (x_r M v0 0)) dX7_step_77 lk_239 (by decide) (by decide) rfl (fun _ => rfl) h7 ?_
      refine x_aload_n 80 0 dX7_step_80 rfl rfl ?_
      refine x_getf 81 40 7 6 (.int (x_i M v0 6)) dX7_step_81 lk_246 (by decide) (by decide) rfl (fun _ => rfl) h7 ?_
      obtain ⟨M15, e17, H⟩ := x_bv_of H
      refine x_callV 84 65 2 [(.int (x_i M v0 6))] [] dX7_step_84 (ct_X2_hear l e17) lk_754 lk_704 lk_705 (by decide) h8 lk_87 lk_706 ⟨cn_X2_hear, (by decide), by decide⟩ rfl (Nat.le_of_ble_eq_true rfl) (Nat.le_of_ble_eq_true rfl) (Nat.le_of_ble_eq_true rfl) (x_rv ?_)
      refine x_goto 87 103 dX7_step_87 (by decide) ?_
      cases H
      exact x_vret 103 dX7_step_103 rfl (Nat.le_of_ble_eq_true rfl) (Nat.le_of_ble_eq_true rfl) ⟨rfl, rfl⟩
  · replace H := x_ifn c9 H
    cases H
    exact x_vret 71 dX7_step_71 rfl (Nat.le_of_ble_eq_true rfl) (Nat.le_of_ble_eq_true rfl) ⟨rfl, rfl⟩

def f_X7_step_42 (v0 : Nat) (s0 : Int32) (M : XM) : Option XM :=
  if s0 = 0 then (f_X7_step_57 v0 s0 M) else (if x_tag M v0 = 7 + 10 then (x_lt (x_wi M v0 3 ((x_i M v0 3) + (1 : Int32))) (fun M19 => f_X7_step_57 v0 s0 M19)) else none)
set_option maxRecDepth 20000 in
set_option maxHeartbeats 4000000 in
theorem t_X7_step_42 (l : Launch) {v0 : Nat} {s0 : Int32} {M : XM} {q : XM} (H : f_X7_step_42 v0 s0 M = some q) : AW l m_X7_step 3 0 0 (x_Rv q) 0 0 42 [some (.ref v0), none] [(.int s0)] M := by
  unfold f_X7_step_42 at H
  refine x_istore_n 42 1 [some (.ref v0), some (.int s0)] dX7_step_42 rfl rfl (Nat.le_of_ble_eq_true rfl) rfl ?_
  refine x_iload_n 43 1 dX7_step_43 rfl rfl ?_
  refine x_if_eq 44 57 dX7_step_44 (by decide) (fun c6 => ?_) (fun c6 => ?_)
  · replace H := x_ifp c6 H
    exact t_X7_step_57 l H
  · replace H := x_ifn c6 H
    refine x_aload_n 47 0 dX7_step_47 rfl rfl ?_
    refine x_dup 48 dX7_step_48 rfl ?_
    obtain ⟨h18, H⟩ := x_ckp H
    refine x_getf 49 56 7 3 (.int (x_i M v0 3)) dX7_step_49 lk_243 (by decide) (by decide) rfl (fun _ => rfl) h18 ?_
    refine x_iconst 52 (1 : Int32) dX7_step_52 (by decide) ?_
    refine x_iadd 53 dX7_step_53 ?_
    obtain ⟨M19, w20, H⟩ := x_lt_of H
    have h21 : x_tag M19 v0 = 7 + 10 := by rw [w20]; exact h18
    refine x_putI' 54 56 7 3 dX7_step_54 lk_243 (by decide) (by decide) rfl (Or.inl rfl) (Or.inl rfl) h18 w20 ?_
    exact t_X7_step_57 l H

def f_X7_step_41 (v0 : Nat) (M : XM) : Option XM :=
  f_X7_step_42 v0 (0 : Int32) M
set_option maxRecDepth 20000 in
set_option maxHeartbeats 4000000 in
theorem t_X7_step_41 (l : Launch) {v0 : Nat} {M : XM} {q : XM} (H : f_X7_step_41 v0 M = some q) : AW l m_X7_step 3 0 0 (x_Rv q) 0 0 41 [some (.ref v0), none] [] M := by
  unfold f_X7_step_41 at H
  refine x_iconst 41 (0 : Int32) dX7_step_41 (by decide) ?_
  exact t_X7_step_42 l H

def f_X7_step (v0 : Nat) (M : XM) : Option XM :=
  if x_tag M v0 = 7 + 10 then (x_lt (x_wi M v0 4 ((x_i M v0 4) + (1 : Int32))) (fun M2 => if (x_i M2 v0 2) ≤ (x_i M2 v0 3) then (f_X7_step_41 v0 M2) else (if x_at M2 (x_r M2 v0 1) 1 (x_i M2 v0 3) = true then (if (x_i M2 (x_r M2 v0 1) (x_i M2 v0 3).toNatClampNeg) = (x_i M2 v0 4) then (f_X7_step_42 v0 (1 : Int32) M2) else (f_X7_step_41 v0 M2)) else none))) else none
set_option maxRecDepth 20000 in
set_option maxHeartbeats 4000000 in
theorem t_X7_step (l : Launch) {v0 : Nat} {M : XM} {q : XM} (H : f_X7_step v0 M = some q) : AW l m_X7_step 3 0 0 (x_Rv q) 0 0 0 [some (.ref v0), none] [] M := by
  unfold f_X7_step at H
  refine x_aload_n 0 0 dX7_step_0 rfl rfl ?_
  refine x_dup 1 dX7_step_1 rfl ?_
  obtain ⟨h1, H⟩ := x_ckp H
  refine x_getf 2 59 7 4 (.int (x_i M v0 4)) dX7_step_2 lk_244 (by decide) (by decide) rfl (fun _ => rfl) h1 ?_
  refine x_iconst 5 (1 : Int32) dX7_step_5 (by decide) ?_
  refine x_iadd 6 dX7_step_6 ?_
  obtain ⟨M2, w3, H⟩ := x_lt_of H
  have h4 : x_tag M2 v0 = 7 + 10 := by rw [w3]; exact h1
  refine x_putI' 7 59 7 4 dX7_step_7 lk_244 (by decide) (by decide) rfl (Or.inl rfl) (Or.inl rfl) h1 w3 ?_
  refine x_aload_n 10 0 dX7_step_10 rfl rfl ?_
  refine x_getf 11 56 7 3 (.int (x_i M2 v0 3)) dX7_step_11 lk_243 (by decide) (by decide) rfl (fun _ => rfl) h4 ?_
  refine x_aload_n 14 0 dX7_step_14 rfl rfl ?_
  refine x_getf 15 47 7 2 (.int (x_i M2 v0 2)) dX7_step_15 lk_242 (by decide) (by decide) rfl (fun _ => rfl) h4 ?_
  refine x_icmp_ge 18 41 dX7_step_18 (by decide) (fun c5 => ?_) (fun c5 => ?_)
  · replace H := x_ifp c5 H
    exact t_X7_step_41 l H
  · replace H := x_ifn c5 H
    refine x_aload_n 21 0 dX7_step_21 rfl rfl ?_
    refine x_getf 22 18 7 1 (.ref (x_r M2 v0 1)) dX7_step_22 lk_241 (by decide) (by decide) rfl (fun _ => rfl) h4 ?_
    refine x_aload_n 25 0 dX7_step_25 rfl rfl ?_
    refine x_getf 26 56 7 3 (.int (x_i M2 v0 3)) dX7_step_26 lk_243 (by decide) (by decide) rfl (fun _ => rfl) h4 ?_
    obtain ⟨h22, H⟩ := x_ckp H
    refine x_iald 29 dX7_step_29 h22 ?_
    refine x_aload_n 30 0 dX7_step_30 rfl rfl ?_
    refine x_getf 31 59 7 4 (.int (x_i M2 v0 4)) dX7_step_31 lk_244 (by decide) (by decide) rfl (fun _ => rfl) h4 ?_
    refine x_icmp_ne 34 41 dX7_step_34 (by decide) (fun c23 => ?_) (fun c23 => ?_)
    · replace H := x_ifn c23 H
      exact t_X7_step_41 l H
    · replace H := x_ifp c23 H
      refine x_iconst 37 (1 : Int32) dX7_step_37 (by decide) ?_
      refine x_goto 38 42 dX7_step_38 (by decide) ?_
      exact t_X7_step_42 l H

theorem ct_X7_step (l : Launch) {v0 : Nat} {M : XM} {q : XM} (H : f_X7_step v0 M = some q) : Ct l m_X7_step 3 0 0 [(.ref v0)] M (x_Rv q) := x_met l m_X7_step 3 0 0 [(.ref v0)] M (x_Rv q) _ rfl rfl (Nat.le_of_ble_eq_true rfl) (t_X7_step l H)
theorem lk_89 : Cond.initialized RX7 ∈ x_TB := x_tb (k := 89) (by decide +kernel) rfl
theorem lk_753 : Cond.code yX7_step cX7_step 2 none ∈ x_TB := x_tb (k := 753) (by decide +kernel) rfl
theorem lk_767 : Cond.methodLink RX7 69 yX7_step ∈ x_TB := x_tb (k := 767) (by decide +kernel) rfl
theorem lk_752 : Cond.selects RX7 yX7_step yX7_step ∈ x_TB := x_tb (k := 752) (by decide +kernel) rfl
theorem lk_751 : Cond.instanceMethod yX7_step ∈ x_TB := x_tb (k := 751) (by decide +kernel) rfl
abbrev m_X7_untilThrough : XU := (yX7_untilThrough, cX7_untilThrough, 2, (some .int))
theorem cn_X7_untilThrough : m_X7_untilThrough.1.cls ≠ "java/lang/invoke/MethodHandle" ∧ m_X7_untilThrough.1.cls ≠ "java/lang/invoke/VarHandle" ∧ (parseMethodDescriptor m_X7_untilThrough.1.desc).map (fun q => q.parameters.length) = some 0 := by decide +kernel
def f_X7_untilThrough_c26 (κ2 : Nat → Int32 → XM → Option (Int32 × XM)) (v0 : Nat) (v1 : Int32) (M : XM) : Option (Int32 × XM) :=
  κ2 v0 (v1 + (1 : Int32)) M
set_option maxRecDepth 20000 in
set_option maxHeartbeats 4000000 in
theorem t_X7_untilThrough_c26 (l : Launch) {κ2 : Nat → Int32 → XM → Option (Int32 × XM)} {v0 : Nat} {v1 : Int32} {M : XM} {q : Int32 × XM} (hκ2 : ∀ (v0 : Nat) (v1 : Int32) (M : XM), κ2 v0 v1 M = some q → AW l m_X7_untilThrough 4 0 0 (x_Ri q) 0 0 2 [some (.ref v0), some (.int v1)] [] M) (H : f_X7_untilThrough_c26 κ2 v0 v1 M = some q) : AW l m_X7_untilThrough 4 0 0 (x_Ri q) 0 0 29 [some (.ref v0), some (.int v1)] [] M := by
  unfold f_X7_untilThrough_c26 at H
  refine x_iinc 29 1 (v1 + (1 : Int32)) [some (.ref v0), some (.int (v1 + (1 : Int32)))] dX7_untilThrough_29 rfl (congrArg (fun z : Int32 => v1 + z) (show Int32.ofInt (1) = (1 : Int32) by decide)) rfl (Nat.le_of_ble_eq_true rfl) rfl ?_
  refine x_goto 32 2 dX7_untilThrough_32 (by decide) ?_
  exact hκ2 _ _ _ H

def bd_X7_untilThrough_2 (κ2 : Nat → Int32 → XM → Option (Int32 × XM)) (v0 : Nat) (v1 : Int32) (M : XM) : Option (Int32 × XM) :=
  if (400 : Int32) < v1 then (some ((-1 : Int32), M)) else (if x_tag M v0 = 7 + 10 then (if x_tag M (x_r M v0 0) = 2 + 10 then (if (x_i M (x_r M v0 0) 2) < (x_i M v0 5) then (x_bv (f_X7_step v0 M) (f_X7_untilThrough_c26 κ2 v0 v1)) else (some (v1, M))) else none) else none)
set_option maxRecDepth 20000 in
set_option maxHeartbeats 4000000 in
theorem tb_X7_untilThrough_2 (l : Launch) {κ2 : Nat → Int32 → XM → Option (Int32 × XM)} {v0 : Nat} {v1 : Int32} {M : XM} {q : Int32 × XM} (hκ2 : ∀ (v0 : Nat) (v1 : Int32) (M : XM), κ2 v0 v1 M = some q → AW l m_X7_untilThrough 4 0 0 (x_Ri q) 0 0 2 [some (.ref v0), some (.int v1)] [] M) (H : bd_X7_untilThrough_2 κ2 v0 v1 M = some q) : AW l m_X7_untilThrough 4 0 0 (x_Ri q) 0 0 2 [some (.ref v0), some (.int v1)] [] M := by
  unfold bd_X7_untilThrough_2 at H
  refine x_iload_n 2 1 dX7_untilThrough_2 rfl rfl ?_
  refine x_sipush 3 (400 : Int32) dX7_untilThrough_3 (by decide) ?_
  refine x_icmp_gt 6 35 dX7_untilThrough_6 (by decide) (fun c1 => ?_) (fun c1 => ?_)
  · replace H := x_ifp c1 H
    refine x_iconst 35 (-1 : Int32) dX7_untilThrough_35 (by decide) ?_
    cases H
    exact x_iret 36 dX7_untilThrough_36 .int rfl rfl (Nat.le_of_ble_eq_true rfl) (Nat.le_of_ble_eq_true rfl) ⟨rfl, rfl⟩
  · replace H := x_ifn c1 H
    refine x_aload_n 9 0 dX7_untilThrough_9 rfl rfl ?_
    obtain ⟨h2, H⟩ := x_ckp H
    refine x_getf 10 12 7 0 (.ref (x_r M v0 0)) dX7_untilThrough_10 lk_239 (by decide) (by decide) rfl (fun _ => rfl) h2 ?_
    obtain ⟨h3, H⟩ := x_ckp H
    refine x_getf 13 62 2 2 (.int (x_i M (x_r M v0 0) 2)) dX7_untilThrough_13 lk_132 (by decide) (by decide) rfl (fun _ => rfl) h3 ?_
    refine x_aload_n 16 0 dX7_untilThrough_16 rfl rfl ?_
    refine x_getf 17 36 7 5 (.int (x_i M v0 5)) dX7_untilThrough_17 lk_245 (by decide) (by decide) rfl (fun _ => rfl) h2 ?_
    refine x_icmp_lt 20 25 dX7_untilThrough_20 (by decide) (fun c4 => ?_) (fun c4 => ?_)
    · replace H := x_ifp c4 H
      refine x_aload_n 25 0 dX7_untilThrough_25 rfl rfl ?_
      obtain ⟨M5, e7, H⟩ := x_bv_of H
      refine x_callV 26 69 7 [] [] dX7_untilThrough_26 (ct_X7_step l e7) lk_767 lk_751 lk_752 (by decide) h2 lk_89 lk_753 ⟨cn_X7_step, (by decide), by decide⟩ rfl (Nat.le_of_ble_eq_true rfl) (Nat.le_of_ble_eq_true rfl) (Nat.le_of_ble_eq_true rfl) (x_rv ?_)
      exact t_X7_untilThrough_c26 l hκ2 H
    · replace H := x_ifn c4 H
      refine x_iload_n 23 1 dX7_untilThrough_23 rfl rfl ?_
      cases H
      exact x_iret 24 dX7_untilThrough_24 .int rfl rfl (Nat.le_of_ble_eq_true rfl) (Nat.le_of_ble_eq_true rfl) ⟨rfl, rfl⟩

def lp_X7_untilThrough_2 (n : Nat) : Nat → Int32 → XM → Option (Int32 × XM) := x_rec (fun _ _ _ => none) (bd_X7_untilThrough_2) n
theorem t_X7_untilThrough_2 (l : Launch) {q : Int32 × XM} : ∀ (n : Nat) (v0 : Nat) (v1 : Int32) (M : XM), lp_X7_untilThrough_2 n v0 v1 M = some q → AW l m_X7_untilThrough 4 0 0 (x_Ri q) 0 0 2 [some (.ref v0), some (.int v1)] [] M := by
  intro n
  induction n with
  | zero => intro v0 v1 M H; cases H
  | succ n ih => intro v0 v1 M H; exact tb_X7_untilThrough_2 l ih H
def f_X7_untilThrough (v0 : Nat) (M : XM) : Option (Int32 × XM) :=
  lp_X7_untilThrough_2 x_fuel v0 (0 : Int32) M
set_option maxRecDepth 20000 in
set_option maxHeartbeats 4000000 in
theorem t_X7_untilThrough (l : Launch) {v0 : Nat} {M : XM} {q : Int32 × XM} (H : f_X7_untilThrough v0 M = some q) : AW l m_X7_untilThrough 4 0 0 (x_Ri q) 0 0 0 [some (.ref v0), none] [] M := by
  unfold f_X7_untilThrough at H
  refine x_iconst 0 (0 : Int32) dX7_untilThrough_0 (by decide) ?_
  refine x_istore_n 1 1 [some (.ref v0), some (.int (0 : Int32))] dX7_untilThrough_1 rfl rfl (Nat.le_of_ble_eq_true rfl) rfl ?_
  exact t_X7_untilThrough_2 l _ _ _ _ H

theorem ct_X7_untilThrough (l : Launch) {v0 : Nat} {M : XM} {q : Int32 × XM} (H : f_X7_untilThrough v0 M = some q) : Ct l m_X7_untilThrough 4 0 0 [(.ref v0)] M (x_Ri q) := x_met l m_X7_untilThrough 4 0 0 [(.ref v0)] M (x_Ri q) _ rfl rfl (Nat.le_of_ble_eq_true rfl) (t_X7_untilThrough l H)
theorem lk_107 : Cond.methodLink RX8 1 Lib.objectInit ∈ x_TB := x_tb (k := 107) (by decide +kernel) rfl
theorem lk_110 : Cond.classLink RX8 7 RX4 ∈ x_TB := x_tb (k := 110) (by decide +kernel) rfl
theorem lk_111 : Cond.instantiable RX4 10 ∈ x_TB := x_tb (k := 111) (by decide +kernel) rfl
theorem lk_114 : Cond.code yX4_init cX4_init 2 none ∈ x_TB := x_tb (k := 114) (by decide +kernel) rfl
theorem lk_112 : Cond.methodLink RX8 9 yX4_init ∈ x_TB := x_tb (k := 112) (by decide +kernel) rfl
theorem lk_113 : Cond.instanceMethod yX4_init ∈ x_TB := x_tb (k := 113) (by decide +kernel) rfl
theorem lk_357 : Cond.fieldLink RX8 10 RX8 "now" "LWhatDidYouSay$Room;" ∈ x_TB := x_tb (k := 357) (by decide +kernel) rfl
theorem lk_358 : Cond.fieldLink RX8 16 RX8 "kept" "LWhatDidYouSay$Room;" ∈ x_TB := x_tb (k := 358) (by decide +kernel) rfl
theorem lk_360 : Cond.fieldLink RX8 19 RX8 "draft" "LWhatDidYouSay$Room;" ∈ x_TB := x_tb (k := 360) (by decide +kernel) rfl
theorem lk_206 : Cond.classLink RX8 22 RX5 ∈ x_TB := x_tb (k := 206) (by decide +kernel) rfl
theorem lk_207 : Cond.instantiable RX5 5 ∈ x_TB := x_tb (k := 207) (by decide +kernel) rfl
theorem lk_210 : Cond.code yX5_init cX5_init 2 none ∈ x_TB := x_tb (k := 210) (by decide +kernel) rfl
theorem lk_208 : Cond.methodLink RX8 24 yX5_init ∈ x_TB := x_tb (k := 208) (by decide +kernel) rfl
theorem lk_209 : Cond.instanceMethod yX5_init ∈ x_TB := x_tb (k := 209) (by decide +kernel) rfl
theorem lk_361 : Cond.fieldLink RX8 27 RX8 "reader" "LWhatDidYouSay$RoomReader;" ∈ x_TB := x_tb (k := 361) (by decide +kernel) rfl
theorem lk_362 : Cond.fieldLink RX8 31 RX8 "faultPlace" "I" ∈ x_TB := x_tb (k := 362) (by decide +kernel) rfl
theorem lk_229 : Cond.classLink RX8 35 RX6 ∈ x_TB := x_tb (k := 229) (by decide +kernel) rfl
theorem lk_363 : Cond.fieldLink RX8 37 RX8 "shelves" "[LWhatDidYouSay$Shelf;" ∈ x_TB := x_tb (k := 363) (by decide +kernel) rfl
theorem lk_364 : Cond.fieldLink RX8 41 RX8 "refused" "[I" ∈ x_TB := x_tb (k := 364) (by decide +kernel) rfl
theorem lk_231 : Cond.classLink RX8 45 RX7 ∈ x_TB := x_tb (k := 231) (by decide +kernel) rfl
theorem lk_232 : Cond.instantiable RX7 7 ∈ x_TB := x_tb (k := 232) (by decide +kernel) rfl
theorem lk_235 : Cond.code yX7_init cX7_init 1 none ∈ x_TB := x_tb (k := 235) (by decide +kernel) rfl
theorem lk_234 : Cond.instanceMethod yX7_init ∈ x_TB := x_tb (k := 234) (by decide +kernel) rfl
theorem lk_365 : Cond.fieldLink RX8 48 RX8 "walk" "LWhatDidYouSay$Walk;" ∈ x_TB := x_tb (k := 365) (by decide +kernel) rfl
theorem lk_262 : Cond.classLink RX8 52 RX1 ∈ x_TB := x_tb (k := 262) (by decide +kernel) rfl
theorem lk_263 : Cond.instantiable RX1 9 ∈ x_TB := x_tb (k := 263) (by decide +kernel) rfl
theorem lk_266 : Cond.code yX1_init cX1_init 1 none ∈ x_TB := x_tb (k := 266) (by decide +kernel) rfl
theorem lk_265 : Cond.instanceMethod yX1_init ∈ x_TB := x_tb (k := 265) (by decide +kernel) rfl
theorem lk_366 : Cond.fieldLink RX8 55 RX8 "chances" "LWhatDidYouSay$Chances;" ∈ x_TB := x_tb (k := 366) (by decide +kernel) rfl
theorem lk_296 : Cond.classLink RX8 59 RX3 ∈ x_TB := x_tb (k := 296) (by decide +kernel) rfl
theorem lk_297 : Cond.instantiable RX3 2 ∈ x_TB := x_tb (k := 297) (by decide +kernel) rfl
theorem lk_300 : Cond.code yX3_init cX3_init 1 none ∈ x_TB := x_tb (k := 300) (by decide +kernel) rfl
theorem lk_299 : Cond.instanceMethod yX3_init ∈ x_TB := x_tb (k := 299) (by decide +kernel) rfl
theorem lk_367 : Cond.fieldLink RX8 62 RX8 "delays" "LWhatDidYouSay$Delays;" ∈ x_TB := x_tb (k := 367) (by decide +kernel) rfl
theorem lk_309 : Cond.classLink RX8 66 RX2 ∈ x_TB := x_tb (k := 309) (by decide +kernel) rfl
theorem lk_368 : Cond.fieldLink RX8 69 RX8 "listener" "LWhatDidYouSay$Counter;" ∈ x_TB := x_tb (k := 368) (by decide +kernel) rfl
theorem lk_369 : Cond.fieldLink RX8 73 RX8 "ownOffs" "[I" ∈ x_TB := x_tb (k := 369) (by decide +kernel) rfl
theorem lk_370 : Cond.fieldLink RX8 76 RX8 "otherOffs" "[I" ∈ x_TB := x_tb (k := 370) (by decide +kernel) rfl
theorem lk_311 : Cond.classLink RX8 79 RX0 ∈ x_TB := x_tb (k := 311) (by decide +kernel) rfl
theorem lk_312 : Cond.instantiable RX0 5 ∈ x_TB := x_tb (k := 312) (by decide +kernel) rfl
theorem lk_315 : Cond.code yX0_init cX0_init 1 none ∈ x_TB := x_tb (k := 315) (by decide +kernel) rfl
theorem lk_314 : Cond.instanceMethod yX0_init ∈ x_TB := x_tb (k := 314) (by decide +kernel) rfl
theorem lk_371 : Cond.fieldLink RX8 82 RX8 "acts" "LWhatDidYouSay$Acts;" ∈ x_TB := x_tb (k := 371) (by decide +kernel) rfl
theorem lk_334 : Cond.instantiable RX6 4 ∈ x_TB := x_tb (k := 334) (by decide +kernel) rfl
theorem lk_337 : Cond.code yX6_init cX6_init 1 none ∈ x_TB := x_tb (k := 337) (by decide +kernel) rfl
theorem lk_336 : Cond.instanceMethod yX6_init ∈ x_TB := x_tb (k := 336) (by decide +kernel) rfl
abbrev m_X8_init : XU := (yX8_init, cX8_init, 2, none)
theorem cn_X8_init : m_X8_init.1.cls ≠ "java/lang/invoke/MethodHandle" ∧ m_X8_init.1.cls ≠ "java/lang/invoke/VarHandle" ∧ (parseMethodDescriptor m_X8_init.1.desc).map (fun q => q.parameters.length) = some 0 := by decide +kernel
set_option maxRecDepth 20000 in
def f_X8_init (v0 : Nat) (M : XM) : Option XM :=
  if x_tag M v0 = 8 + 10 then (x_al M (4 + 10) 0 (fun a3 M2 => x_bv (f_X4_init a3 M2) (fun M7 => if x_tag M7 v0 = 8 + 10 then (x_lt (x_wr M7 v0 0 a3) (fun M11 => x_al M11 (4 + 10) 0 (fun a15 M14 => x_bv (f_X4_init a15 M14) (fun M19 => if x_tag M19 v0 = 8 + 10 then (x_lt (x_wr M19 v0 1 a15) (fun M23 => x_al M23 (4 + 10) 0 (fun a27 M26 => x_bv (f_X4_init a27 M26) (fun M31 => if x_tag M31 v0 = 8 + 10 then (x_lt (x_wr M31 v0 3 a27) (fun M35 => x_al M35 (5 + 10) 0 (fun a39 M38 => if x_tag M38 v0 = 8 + 10 then (x_bv (f_X5_init a39 (x_r M38 v0 3) M38) (fun M44 => if x_tag M44 v0 = 8 + 10 then (x_lt (x_wr M44 v0 4 a39) (fun M48 => x_lt (x_wi M48 v0 5 (-1 : Int32)) (fun M51 => x_al M51 4 8 (fun a55 M54 => if x_tag M54 v0 = 8 + 10 then (x_lt (x_wr M54 v0 6 a55) (fun M60 => x_al M60 1 8 (fun a65 M64 => if x_tag M64 v0 = 8 + 10 then (x_lt (x_wr M64 v0 7 a65) (fun M70 => x_al M70 (7 + 10) 0 (fun a75 M74 => x_bv (f_X7_init a75 M74) (fun M79 => if x_tag M79 v0 = 8 + 10 then (x_lt (x_wr M79 v0 8 a75) (fun M83 => x_al M83 (1 + 10) 0 (fun a87 M86 => x_bv (f_X1_init a87 M86) (fun M91 => if x_tag M91 v0 = 8 + 10 then (x_lt (x_wr M91 v0 9 a87) (fun M95 => x_al M95 (3 + 10) 0 (fun a99 M98 => x_bv (f_X3_init a99 M98) (fun M103 => if x_tag M103 v0 = 8 + 10 then (x_lt (x_wr M103 v0 10 a99) (fun M107 => x_al M107 (2 + 10) 0 (fun a111 M110 => x_bv (f_X2_init a111 M110) (fun M115 => if x_tag M115 v0 = 8 + 10 then (x_lt (x_wr M115 v0 11 a111) (fun M119 => x_al M119 1 201 (fun a123 M122 => if x_tag M122 v0 = 8 + 10 then (x_lt (x_wr M122 v0 12 a123) (fun M128 => x_al M128 1 201 (fun a133 M132 => if x_tag M132 v0 = 8 + 10 then (x_lt (x_wr M132 v0 13 a133) (fun M138 => x_al M138 (0 + 10) 0 (fun a143 M142 => x_bv (f_X0_init a143 M142) (fun M147 => if x_tag M147 v0 = 8 + 10 then (x_lt (x_wr M147 v0 14 a143) (fun M151 => if x_tag M151 (x_r M151 v0 6) = 4 then (if (Int32.ofNat (x_len M151 (x_r M151 v0 6))) ≤ (0 : Int32) then (some M151) else (x_al M151 (6 + 10) 0 (fun a157 M156 => x_bv (f_X6_init a157 M156) (fun M161 => if x_at M161 (x_r M151 v0 6) 4 (0 : Int32) = true then (if x_tag M161 a157 = 6 + 10 then (x_lt (x_wr M161 (x_r M151 v0 6) (0 : Int32).toNatClampNeg a157) (fun M166 => if x_tag M166 v0 = 8 + 10 then (if x_tag M166 (x_r M166 v0 6) = 4 then (if (Int32.ofNat (x_len M166 (x_r M166 v0 6))) ≤ ((0 : Int32) + (1 : Int32)) then (some M166) else (x_al M166 (6 + 10) 0 (fun a175 M174 => x_bv (f_X6_init a175 M174) (fun M179 => if x_at M179 (x_r M166 v0 6) 4 ((0 : Int32) + (1 : Int32)) = true then (if x_tag M179 a175 = 6 + 10 then (x_lt (x_wr M179 (x_r M166 v0 6) ((0 : Int32) + (1 : Int32)).toNatClampNeg a175) (fun M184 => if x_tag M184 v0 = 8 + 10 then (if x_tag M184 (x_r M184 v0 6) = 4 then (if (Int32.ofNat (x_len M184 (x_r M184 v0 6))) ≤ (((0 : Int32) + (1 : Int32)) + (1 : Int32)) then (some M184) else (x_al M184 (6 + 10) 0 (fun a193 M192 => x_bv (f_X6_init a193 M192) (fun M197 => if x_at M197 (x_r M184 v0 6) 4 (((0 : Int32) + (1 : Int32)) + (1 : Int32)) = true then (if x_tag M197 a193 = 6 + 10 then (x_lt (x_wr M197 (x_r M184 v0 6) (((0 : Int32) + (1 : Int32)) + (1 : Int32)).toNatClampNeg a193) (fun M202 => if x_tag M202 v0 = 8 + 10 then (if x_tag M202 (x_r M202 v0 6) = 4 then (if (Int32.ofNat (x_len M202 (x_r M202 v0 6))) ≤ ((((0 : Int32) + (1 : Int32)) + (1 : Int32)) + (1 : Int32)) then (some M202) else (x_al M202 (6 + 10) 0 (fun a211 M210 => x_bv (f_X6_init a211 M210) (fun M215 => if x_at M215 (x_r M202 v0 6) 4 ((((0 : Int32) + (1 : Int32)) + (1 : Int32)) + (1 : Int32)) = true then (if x_tag M215 a211 = 6 + 10 then (x_lt (x_wr M215 (x_r M202 v0 6) ((((0 : Int32) + (1 : Int32)) + (1 : Int32)) + (1 : Int32)).toNatClampNeg a211) (fun M220 => if x_tag M220 v0 = 8 + 10 then (if x_tag M220 (x_r M220 v0 6) = 4 then (if (Int32.ofNat (x_len M220 (x_r M220 v0 6))) ≤ (((((0 : Int32) + (1 : Int32)) + (1 : Int32)) + (1 : Int32)) + (1 : Int32)) then (some M220) else (x_al M220 (6 + 10) 0 (fun a229 M228 => x_bv (f_X6_init a229 M228) (fun M233 => if x_at M233 (x_r M220 v0 6) 4 (((((0 : Int32) + (1 : Int32)) + (1 : Int32)) + (1 : Int32)) + (1 : Int32)) = true then (if x_tag M233 a229 = 6 + 10 then (x_lt (x_wr M233 (x_r M220 v0 6) (((((0 : Int32) + (1 : Int32)) + (1 : Int32)) + (1 : Int32)) + (1 : Int32)).toNatClampNeg a229) (fun M238 => if x_tag M238 v0 = 8 + 10 then (if x_tag M238 (x_r M238 v0 6) = 4 then (if (Int32.ofNat (x_len M238 (x_r M238 v0 6))) ≤ ((((((0 : Int32) + (1 : Int32)) + (1 : Int32)) + (1 : Int32)) + (1 : Int32)) + (1 : Int32)) then (some M238) else (x_al M238 (6 + 10) 0 (fun a247 M246 => x_bv (f_X6_init a247 M246) (fun M251 => if x_at M251 (x_r M238 v0 6) 4 ((((((0 : Int32) + (1 : Int32)) + (1 : Int32)) + (1 : Int32)) + (1 : Int32)) + (1 : Int32)) = true then (if x_tag M251 a247 = 6 + 10 then (x_lt (x_wr M251 (x_r M238 v0 6) ((((((0 : Int32) + (1 : Int32)) + (1 : Int32)) + (1 : Int32)) + (1 : Int32)) + (1 : Int32)).toNatClampNeg a247) (fun M256 => if x_tag M256 v0 = 8 + 10 then (if x_tag M256 (x_r M256 v0 6) = 4 then (if (Int32.ofNat (x_len M256 (x_r M256 v0 6))) ≤ (((((((0 : Int32) + (1 : Int32)) + (1 : Int32)) + (1 : Int32)) + (1 : Int32)) + (1 : Int32)) + (1 : Int32)) then (some M256) else (x_al M256 (6 + 10) 0 (fun a265 M264 => x_bv (f_X6_init a265 M264) (fun M269 => if x_at M269 (x_r M256 v0 6) 4 (((((((0 : Int32) + (1 : Int32)) + (1 : Int32)) + (1 : Int32)) + (1 : Int32)) + (1 : Int32)) + (1 : Int32)) = true then (if x_tag M269 a265 = 6 + 10 then (x_lt (x_wr M269 (x_r M256 v0 6) (((((((0 : Int32) + (1 : Int32)) + (1 : Int32)) + (1 : Int32)) + (1 : Int32)) + (1 : Int32)) + (1 : Int32)).toNatClampNeg a265) (fun M274 => if x_tag M274 v0 = 8 + 10 then (if x_tag M274 (x_r M274 v0 6) = 4 then (if (Int32.ofNat (x_len M274 (x_r M274 v0 6))) ≤ ((((((((0 : Int32) + (1 : Int32)) + (1 : Int32)) + (1 : Int32)) + (1 : Int32)) + (1 : Int32)) + (1 : Int32)) + (1 : Int32)) then (some M274) else (x_al M274 (6 + 10) 0 (fun a283 M282 => x_bv (f_X6_init a283 M282) (fun M287 => if x_at M287 (x_r M274 v0 6) 4 ((((((((0 : Int32) + (1 : Int32)) + (1 : Int32)) + (1 : Int32)) + (1 : Int32)) + (1 : Int32)) + (1 : Int32)) + (1 : Int32)) = true then (if x_tag M287 a283 = 6 + 10 then (x_lt (x_wr M287 (x_r M274 v0 6) ((((((((0 : Int32) + (1 : Int32)) + (1 : Int32)) + (1 : Int32)) + (1 : Int32)) + (1 : Int32)) + (1 : Int32)) + (1 : Int32)).toNatClampNeg a283) (fun M292 => if x_tag M292 v0 = 8 + 10 then (if x_tag M292 (x_r M292 v0 6) = 4 then (if (Int32.ofNat (x_len M292 (x_r M292 v0 6))) ≤ (((((((((0 : Int32) + (1 : Int32)) + (1 : Int32)) + (1 : Int32)) + (1 : Int32)) + (1 : Int32)) + (1 : Int32)) + (1 : Int32)) + (1 : Int32)) then (some M292) else (x_al M292 (6 + 10) 0 (fun a301 M300 => x_bv (f_X6_init a301 M300) (fun M305 => if x_at M305 (x_r M292 v0 6) 4 (((((((((0 : Int32) + (1 : Int32)) + (1 : Int32)) + (1 : Int32)) + (1 : Int32)) + (1 : Int32)) + (1 : Int32)) + (1 : Int32)) + (1 : Int32)) = true then (if x_tag M305 a301 = 6 + 10 then (x_lt (x_wr M305 (x_r M292 v0 6) (((((((((0 : Int32) + (1 : Int32)) + (1 : Int32)) + (1 : Int32)) + (1 : Int32)) + (1 : Int32)) + (1 : Int32)) + (1 : Int32)) + (1 : Int32)).toNatClampNeg a301) (fun M310 => none)) else none) else none)))) else none) else none)) else none) else none)))) else none) else none)) else none) else none)))) else none) else none)) else none) else none)))) else none) else none)) else none) else none)))) else none) else none)) else none) else none)))) else none) else none)) else none) else none)))) else none) else none)) else none) else none)))) else none) else none)) else none) else none)))) else none)) else none)))) else none))) else none))) else none)))) else none)))) else none)))) else none)))) else none))) else none)))) else none)) else none))) else none)))) else none)))) else none))) else none
set_option maxRecDepth 20000 in
set_option maxHeartbeats 4000000 in
theorem t_X8_init (l : Launch) {v0 : Nat} {M : XM} {q : XM} (H : f_X8_init v0 M = some q) : AW l m_X8_init 3 67 8731 (x_Rv q) 0 0 0 [some (.ref v0), none] [] M := by
  unfold f_X8_init at H
  refine x_aload_n 0 0 dX8_init_0 rfl rfl ?_
  obtain ⟨h1, H⟩ := x_ckp H
  refine x_objInit 1 1 dX8_init_1 lk_107 lk_108 lk_109 h1 rfl (Nat.le_of_ble_eq_true rfl) (by decide) ?_
  refine x_aload_n 4 0 dX8_init_4 rfl rfl ?_
  obtain ⟨a3, M2, w4, w5, H⟩ := x_al_of H
  refine x_newc' 5 7 4 dX8_init_5 (by decide) lk_110 lk_111 lk_86 (Nat.le_of_ble_eq_true rfl) (Nat.le_of_ble_eq_true rfl) w4 w5 ?_
  have h6 : x_tag M2 a3 = 4 + 10 := x_al_tag w4 w5
  change AW _ _ _ _ _ _ 1 10 _ _ _ _
  refine x_dup 8 dX8_init_8 rfl ?_
  obtain ⟨M7, e9, H⟩ := x_bv_of H
  refine x_callI 9 9 [] [(.ref a3), (.ref v0)] dX8_init_9 (ct_X4_init l e9) lk_112 rfl rfl lk_113 h6 lk_86 lk_114 ⟨cn_X4_init, (by decide), by decide⟩ rfl (Nat.le_of_ble_eq_true rfl) (Nat.le_of_ble_eq_true rfl) (Nat.le_of_ble_eq_true rfl) (x_rv ?_)
  change AW _ _ _ _ _ _ 10 59 _ _ _ _
  obtain ⟨h10, H⟩ := x_ckp H
  obtain ⟨M11, w12, H⟩ := x_lt_of H
  have h13 : x_tag M11 v0 = 8 + 10 := by rw [w12]; exact h10
  refine x_putR' 12 10 8 0 dX8_init_12 lk_357 (by decide) (by decide) rfl (Or.inl ⟨_, rfl⟩) (Or.inr ⟨rfl, rfl⟩) h10 w12 ?_
  refine x_aload_n 15 0 dX8_init_15 rfl rfl ?_
  obtain ⟨a15, M14, w16, w17, H⟩ := x_al_of H
  refine x_newc' 16 7 4 dX8_init_16 (by decide) lk_110 lk_111 lk_86 (Nat.le_of_ble_eq_true rfl) (Nat.le_of_ble_eq_true rfl) w16 w17 ?_
  have h18 : x_tag M14 a15 = 4 + 10 := x_al_tag w16 w17
  change AW _ _ _ _ _ _ 11 69 _ _ _ _
  refine x_dup 19 dX8_init_19 rfl ?_
  obtain ⟨M19, e21, H⟩ := x_bv_of H
  refine x_callI 20 9 [] [(.ref a15), (.ref v0)] dX8_init_20 (ct_X4_init l e21) lk_112 rfl rfl lk_113 h18 lk_86 lk_114 ⟨cn_X4_init, (by decide), by decide⟩ rfl (Nat.le_of_ble_eq_true rfl) (Nat.le_of_ble_eq_true rfl) (Nat.le_of_ble_eq_true rfl) (x_rv ?_)
  change AW _ _ _ _ _ _ 20 118 _ _ _ _
  obtain ⟨h22, H⟩ := x_ckp H
  obtain ⟨M23, w24, H⟩ := x_lt_of H
  have h25 : x_tag M23 v0 = 8 + 10 := by rw [w24]; exact h22
  refine x_putR' 23 16 8 1 dX8_init_23 lk_358 (by decide) (by decide) rfl (Or.inl ⟨_, rfl⟩) (Or.inr ⟨rfl, rfl⟩) h22 w24 ?_
  refine x_aload_n 26 0 dX8_init_26 rfl rfl ?_
  obtain ⟨a27, M26, w28, w29, H⟩ := x_al_of H
  refine x_newc' 27 7 4 dX8_init_27 (by decide) lk_110 lk_111 lk_86 (Nat.le_of_ble_eq_true rfl) (Nat.le_of_ble_eq_true rfl) w28 w29 ?_
  have h30 : x_tag M26 a27 = 4 + 10 := x_al_tag w28 w29
  change AW _ _ _ _ _ _ 21 128 _ _ _ _
  refine x_dup 30 dX8_init_30 rfl ?_
  obtain ⟨M31, e33, H⟩ := x_bv_of H
  refine x_callI 31 9 [] [(.ref a27), (.ref v0)] dX8_init_31 (ct_X4_init l e33) lk_112 rfl rfl lk_113 h30 lk_86 lk_114 ⟨cn_X4_init, (by decide), by decide⟩ rfl (Nat.le_of_ble_eq_true rfl) (Nat.le_of_ble_eq_true rfl) (Nat.le_of_ble_eq_true rfl) (x_rv ?_)
  change AW _ _ _ _ _ _ 30 177 _ _ _ _
  obtain ⟨h34, H⟩ := x_ckp H
  obtain ⟨M35, w36, H⟩ := x_lt_of H
  have h37 : x_tag M35 v0 = 8 + 10 := by rw [w36]; exact h34
  refine x_putR' 34 19 8 3 dX8_init_34 lk_360 (by decide) (by decide) rfl (Or.inl ⟨_, rfl⟩) (Or.inr ⟨rfl, rfl⟩) h34 w36 ?_
  refine x_aload_n 37 0 dX8_init_37 rfl rfl ?_
  obtain ⟨a39, M38, w40, w41, H⟩ := x_al_of H
  refine x_newc' 38 22 5 dX8_init_38 (by decide) lk_206 lk_207 lk_88 (Nat.le_of_ble_eq_true rfl) (Nat.le_of_ble_eq_true rfl) w40 w41 ?_
  have h42 : x_tag M38 a39 = 5 + 10 := x_al_tag w40 w41
  change AW _ _ _ _ _ _ 31 182 _ _ _ _
  refine x_dup 41 dX8_init_41 rfl ?_
  refine x_aload_n 42 0 dX8_init_42 rfl rfl ?_
  obtain ⟨h43, H⟩ := x_ckp H
  refine x_getf 43 19 8 3 (.ref (x_r M38 v0 3)) dX8_init_43 lk_360 (by decide) (by decide) rfl (fun _ => rfl) h43 ?_
  obtain ⟨M44, e46, H⟩ := x_bv_of H
  refine x_callI 46 24 [(.ref (x_r M38 v0 3))] [(.ref a39), (.ref v0)] dX8_init_46 (ct_X5_init l e46) lk_208 rfl rfl lk_209 h42 lk_88 lk_210 ⟨cn_X5_init, (by decide), by decide⟩ rfl (Nat.le_of_ble_eq_true rfl) (Nat.le_of_ble_eq_true rfl) (Nat.le_of_ble_eq_true rfl) (x_rv ?_)
  change AW _ _ _ _ _ _ 32 342 _ _ _ _
  obtain ⟨h47, H⟩ := x_ckp H
  obtain ⟨M48, w49, H⟩ := x_lt_of H
  have h50 : x_tag M48 v0 = 8 + 10 := by rw [w49]; exact h47
  refine x_putR' 49 27 8 4 dX8_init_49 lk_361 (by decide) (by decide) rfl (Or.inl ⟨_, rfl⟩) (Or.inr ⟨rfl, rfl⟩) h47 w49 ?_
  refine x_aload_n 52 0 dX8_init_52 rfl rfl ?_
  refine x_iconst 53 (-1 : Int32) dX8_init_53 (by decide) ?_
  obtain ⟨M51, w52, H⟩ := x_lt_of H
  have h53 : x_tag M51 v0 = 8 + 10 := by rw [w52]; exact h50
  refine x_putI' 54 31 8 5 dX8_init_54 lk_362 (by decide) (by decide) rfl (Or.inl rfl) (Or.inl rfl) h50 w52 ?_
  refine x_aload_n 57 0 dX8_init_57 rfl rfl ?_
  refine x_bipush 58 (8 : Int32) dX8_init_58 (by decide) ?_
  obtain ⟨a55, M54, w56, w57, H⟩ := x_al_of H
  refine x_anew4' 60 35 8 dX8_init_60 lk_229 (by decide) (by decide) (by decide) (Nat.le_of_ble_eq_true rfl) (Nat.le_of_ble_eq_true rfl) w56 w57 ?_
  have h58 : x_tag M54 a55 = 4 := x_al_tag w56 w57
  change AW _ _ _ _ _ _ 33 350 _ _ _ _
  obtain ⟨h59, H⟩ := x_ckp H
  obtain ⟨M60, w61, H⟩ := x_lt_of H
  have h62 : x_tag M60 a55 = 4 := by rw [w61]; exact h58
  have h63 : x_tag M60 v0 = 8 + 10 := by rw [w61]; exact h59
  refine x_putR' 63 37 8 6 dX8_init_63 lk_363 (by decide) (by decide) rfl (Or.inr ⟨_, rfl⟩) (Or.inr ⟨rfl, rfl⟩) h59 w61 ?_
  refine x_aload_n 66 0 dX8_init_66 rfl rfl ?_
  refine x_bipush 67 (8 : Int32) dX8_init_67 (by decide) ?_
  obtain ⟨a65, M64, w66, w67, H⟩ := x_al_of H
  refine x_newI' 69 8 dX8_init_69 lk_153 (by decide) (by decide) (by decide) (Nat.le_of_ble_eq_true rfl) (Nat.le_of_ble_eq_true rfl) w66 w67 ?_
  have h68 : x_tag M64 a65 = 1 := x_al_tag w66 w67
  change AW _ _ _ _ _ _ 34 358 _ _ _ _
  obtain ⟨h69, H⟩ := x_ckp H
  obtain ⟨M70, w71, H⟩ := x_lt_of H
  have h72 : x_tag M70 a65 = 1 := by rw [w71]; exact h68
  have h73 : x_tag M70 v0 = 8 + 10 := by rw [w71]; exact h69
  refine x_putR' 71 41 8 7 dX8_init_71 lk_364 (by decide) (by decide) rfl (Or.inr ⟨_, rfl⟩) (Or.inr ⟨rfl, rfl⟩) h69 w71 ?_
  refine x_aload_n 74 0 dX8_init_74 rfl rfl ?_
  obtain ⟨a75, M74, w76, w77, H⟩ := x_al_of H
  refine x_newc' 75 45 7 dX8_init_75 (by decide) lk_231 lk_232 lk_89 (Nat.le_of_ble_eq_true rfl) (Nat.le_of_ble_eq_true rfl) w76 w77 ?_
  have h78 : x_tag M74 a75 = 7 + 10 := x_al_tag w76 w77
  change AW _ _ _ _ _ _ 35 365 _ _ _ _
  refine x_dup 78 dX8_init_78 rfl ?_
  obtain ⟨M79, e81, H⟩ := x_bv_of H
  refine x_callIN 79 47 [] [(.ref a75), (.ref v0)] dX8_init_79 (ct_X7_init l e81) (List.mem_of_getElem? (i := 1) rfl) rfl rfl lk_234 h78 lk_89 lk_235 ⟨cn_X7_init, (by decide), by decide⟩ rfl (Nat.le_of_ble_eq_true rfl) (Nat.le_of_ble_eq_true rfl) (Nat.le_of_ble_eq_true rfl) (x_rv ?_)
  change AW _ _ _ _ _ _ 37 410 _ _ _ _
  obtain ⟨h82, H⟩ := x_ckp H
  obtain ⟨M83, w84, H⟩ := x_lt_of H
  have h85 : x_tag M83 v0 = 8 + 10 := by rw [w84]; exact h82
  refine x_putR' 82 48 8 8 dX8_init_82 lk_365 (by decide) (by decide) rfl (Or.inl ⟨_, rfl⟩) (Or.inr ⟨rfl, rfl⟩) h82 w84 ?_
  refine x_aload_n 85 0 dX8_init_85 rfl rfl ?_
  obtain ⟨a87, M86, w88, w89, H⟩ := x_al_of H
  refine x_newc' 86 52 1 dX8_init_86 (by decide) lk_262 lk_263 lk_90 (Nat.le_of_ble_eq_true rfl) (Nat.le_of_ble_eq_true rfl) w88 w89 ?_
  have h90 : x_tag M86 a87 = 1 + 10 := x_al_tag w88 w89
  change AW _ _ _ _ _ _ 38 419 _ _ _ _
  refine x_dup 89 dX8_init_89 rfl ?_
  obtain ⟨M91, e93, H⟩ := x_bv_of H
  refine x_callIN 90 54 [] [(.ref a87), (.ref v0)] dX8_init_90 (ct_X1_init l e93) (List.mem_of_getElem? (i := 3) rfl) rfl rfl lk_265 h90 lk_90 lk_266 ⟨cn_X1_init, (by decide), by decide⟩ rfl (Nat.le_of_ble_eq_true rfl) (Nat.le_of_ble_eq_true rfl) (Nat.le_of_ble_eq_true rfl) (x_rv ?_)
  change AW _ _ _ _ _ _ 41 6419 _ _ _ _
  obtain ⟨h94, H⟩ := x_ckp H
  obtain ⟨M95, w96, H⟩ := x_lt_of H
  have h97 : x_tag M95 v0 = 8 + 10 := by rw [w96]; exact h94
  refine x_putR' 93 55 8 9 dX8_init_93 lk_366 (by decide) (by decide) rfl (Or.inl ⟨_, rfl⟩) (Or.inr ⟨rfl, rfl⟩) h94 w96 ?_
  refine x_aload_n 96 0 dX8_init_96 rfl rfl ?_
  obtain ⟨a99, M98, w100, w101, H⟩ := x_al_of H
  refine x_newc' 97 59 3 dX8_init_97 (by decide) lk_296 lk_297 lk_91 (Nat.le_of_ble_eq_true rfl) (Nat.le_of_ble_eq_true rfl) w100 w101 ?_
  have h102 : x_tag M98 a99 = 3 + 10 := x_al_tag w100 w101
  change AW _ _ _ _ _ _ 42 6421 _ _ _ _
  refine x_dup 100 dX8_init_100 rfl ?_
  obtain ⟨M103, e105, H⟩ := x_bv_of H
  refine x_callIN 101 61 [] [(.ref a99), (.ref v0)] dX8_init_101 (ct_X3_init l e105) (List.mem_of_getElem? (i := 4) rfl) rfl rfl lk_299 h102 lk_91 lk_300 ⟨cn_X3_init, (by decide), by decide⟩ rfl (Nat.le_of_ble_eq_true rfl) (Nat.le_of_ble_eq_true rfl) (Nat.le_of_ble_eq_true rfl) (x_rv ?_)
  change AW _ _ _ _ _ _ 44 6823 _ _ _ _
  obtain ⟨h106, H⟩ := x_ckp H
  obtain ⟨M107, w108, H⟩ := x_lt_of H
  have h109 : x_tag M107 v0 = 8 + 10 := by rw [w108]; exact h106
  refine x_putR' 104 62 8 10 dX8_init_104 lk_367 (by decide) (by decide) rfl (Or.inl ⟨_, rfl⟩) (Or.inr ⟨rfl, rfl⟩) h106 w108 ?_
  refine x_aload_n 107 0 dX8_init_107 rfl rfl ?_
  obtain ⟨a111, M110, w112, w113, H⟩ := x_al_of H
  refine x_newc' 108 66 2 dX8_init_108 (by decide) lk_309 lk_118 lk_87 (Nat.le_of_ble_eq_true rfl) (Nat.le_of_ble_eq_true rfl) w112 w113 ?_
  have h114 : x_tag M110 a111 = 2 + 10 := x_al_tag w112 w113
  change AW _ _ _ _ _ _ 45 6828 _ _ _ _
  refine x_dup 111 dX8_init_111 rfl ?_
  obtain ⟨M115, e117, H⟩ := x_bv_of H
  refine x_callIN 112 68 [] [(.ref a111), (.ref v0)] dX8_init_112 (ct_X2_init l e117) (List.mem_of_getElem? (i := 5) rfl) rfl rfl lk_120 h114 lk_87 lk_121 ⟨cn_X2_init, (by decide), by decide⟩ rfl (Nat.le_of_ble_eq_true rfl) (Nat.le_of_ble_eq_true rfl) (Nat.le_of_ble_eq_true rfl) (x_rv ?_)
  obtain ⟨h118, H⟩ := x_ckp H
  obtain ⟨M119, w120, H⟩ := x_lt_of H
  have h121 : x_tag M119 v0 = 8 + 10 := by rw [w120]; exact h118
  refine x_putR' 115 69 8 11 dX8_init_115 lk_368 (by decide) (by decide) rfl (Or.inl ⟨_, rfl⟩) (Or.inr ⟨rfl, rfl⟩) h118 w120 ?_
  refine x_aload_n 118 0 dX8_init_118 rfl rfl ?_
  refine x_sipush 119 (201 : Int32) dX8_init_119 (by decide) ?_
  obtain ⟨a123, M122, w124, w125, H⟩ := x_al_of H
  refine x_newI' 122 201 dX8_init_122 lk_153 (by decide) (by decide) (by decide) (Nat.le_of_ble_eq_true rfl) (Nat.le_of_ble_eq_true rfl) w124 w125 ?_
  have h126 : x_tag M122 a123 = 1 := x_al_tag w124 w125
  change AW _ _ _ _ _ _ 46 7029 _ _ _ _
  obtain ⟨h127, H⟩ := x_ckp H
  obtain ⟨M128, w129, H⟩ := x_lt_of H
  have h130 : x_tag M128 a123 = 1 := by rw [w129]; exact h126
  have h131 : x_tag M128 v0 = 8 + 10 := by rw [w129]; exact h127
  refine x_putR' 124 73 8 12 dX8_init_124 lk_369 (by decide) (by decide) rfl (Or.inr ⟨_, rfl⟩) (Or.inr ⟨rfl, rfl⟩) h127 w129 ?_
  refine x_aload_n 127 0 dX8_init_127 rfl rfl ?_
  refine x_sipush 128 (201 : Int32) dX8_init_128 (by decide) ?_
  obtain ⟨a133, M132, w134, w135, H⟩ := x_al_of H
  refine x_newI' 131 201 dX8_init_131 lk_153 (by decide) (by decide) (by decide) (Nat.le_of_ble_eq_true rfl) (Nat.le_of_ble_eq_true rfl) w134 w135 ?_
  have h136 : x_tag M132 a133 = 1 := x_al_tag w134 w135
  change AW _ _ _ _ _ _ 47 7230 _ _ _ _
  obtain ⟨h137, H⟩ := x_ckp H
  obtain ⟨M138, w139, H⟩ := x_lt_of H
  have h140 : x_tag M138 a133 = 1 := by rw [w139]; exact h136
  have h141 : x_tag M138 v0 = 8 + 10 := by rw [w139]; exact h137
  refine x_putR' 133 76 8 13 dX8_init_133 lk_370 (by decide) (by decide) rfl (Or.inr ⟨_, rfl⟩) (Or.inr ⟨rfl, rfl⟩) h137 w139 ?_
  refine x_aload_n 136 0 dX8_init_136 rfl rfl ?_
  obtain ⟨a143, M142, w144, w145, H⟩ := x_al_of H
  refine x_newc' 137 79 0 dX8_init_137 (by decide) lk_311 lk_312 lk_92 (Nat.le_of_ble_eq_true rfl) (Nat.le_of_ble_eq_true rfl) w144 w145 ?_
  have h146 : x_tag M142 a143 = 0 + 10 := x_al_tag w144 w145
  change AW _ _ _ _ _ _ 48 7235 _ _ _ _
  refine x_dup 140 dX8_init_140 rfl ?_
  obtain ⟨M147, e149, H⟩ := x_bv_of H
  refine x_callIN 141 81 [] [(.ref a143), (.ref v0)] dX8_init_141 (ct_X0_init l e149) (List.mem_of_getElem? (i := 6) rfl) rfl rfl lk_314 h146 lk_92 lk_315 ⟨cn_X0_init, (by decide), by decide⟩ rfl (Nat.le_of_ble_eq_true rfl) (Nat.le_of_ble_eq_true rfl) (Nat.le_of_ble_eq_true rfl) (x_rv ?_)
  change AW _ _ _ _ _ _ 49 7255 _ _ _ _
  obtain ⟨h150, H⟩ := x_ckp H
  obtain ⟨M151, w152, H⟩ := x_lt_of H
  have h153 : x_tag M151 v0 = 8 + 10 := by rw [w152]; exact h150
  refine x_putR' 144 82 8 14 dX8_init_144 lk_371 (by decide) (by decide) rfl (Or.inl ⟨_, rfl⟩) (Or.inr ⟨rfl, rfl⟩) h150 w152 ?_
  refine x_iconst 147 (0 : Int32) dX8_init_147 (by decide) ?_
  refine x_istore_n 148 1 [some (.ref v0), some (.int (0 : Int32))] dX8_init_148 rfl rfl (Nat.le_of_ble_eq_true rfl) rfl ?_
  refine x_iload_n 149 1 dX8_init_149 rfl rfl ?_
  refine x_aload_n 150 0 dX8_init_150 rfl rfl ?_
  refine x_getf 151 37 8 6 (.ref (x_r M151 v0 6)) dX8_init_151 lk_363 (by decide) (by decide) rfl (fun _ => rfl) h153 ?_
  obtain ⟨h154, H⟩ := x_ckp H
  refine x_alen 154 4 dX8_init_154 h154 (by decide) ?_
  refine x_icmp_ge 155 177 dX8_init_155 (by decide) (fun c155 => ?_) (fun c155 => ?_)
  · replace H := x_ifp c155 H
    cases H
    exact x_vret 177 dX8_init_177 rfl (Nat.le_of_ble_eq_true rfl) (Nat.le_of_ble_eq_true rfl) ⟨rfl, rfl⟩
  · replace H := x_ifn c155 H
    refine x_aload_n 158 0 dX8_init_158 rfl rfl ?_
    refine x_getf 159 37 8 6 (.ref (x_r M151 v0 6)) dX8_init_159 lk_363 (by decide) (by decide) rfl (fun _ => rfl) h153 ?_
    refine x_iload_n 162 1 dX8_init_162 rfl rfl ?_
    obtain ⟨a157, M156, w158, w159, H⟩ := x_al_of H
    refine x_newc' 163 35 6 dX8_init_163 (by decide) lk_229 lk_334 lk_93 (Nat.le_of_ble_eq_true rfl) (Nat.le_of_ble_eq_true rfl) w158 w159 ?_
    have h160 : x_tag M156 a157 = 6 + 10 := x_al_tag w158 w159
    change AW _ _ _ _ _ _ 50 7259 _ _ _ _
    refine x_dup 166 dX8_init_166 rfl ?_
    obtain ⟨M161, e163, H⟩ := x_bv_of H
    refine x_callIN 167 86 [] [(.ref a157), (.int (0 : Int32)), (.ref (x_r M151 v0 6))] dX8_init_167 (ct_X6_init l e163) (List.mem_of_getElem? (i := 7) rfl) rfl rfl lk_336 h160 lk_93 lk_337 ⟨cn_X6_init, (by decide), by decide⟩ rfl (Nat.le_of_ble_eq_true rfl) (Nat.le_of_ble_eq_true rfl) (Nat.le_of_ble_eq_true rfl) (x_rv ?_)
    change AW _ _ _ _ _ _ 51 7419 _ _ _ _
    obtain ⟨h164, H⟩ := x_ckp H
    obtain ⟨h165, H⟩ := x_ckp H
    obtain ⟨M166, w167, H⟩ := x_lt_of H
    have h168 : x_at M166 (x_r M151 v0 6) 4 (0 : Int32) = true := by rw [w167]; exact h164
    have h169 : x_tag M166 (x_r M151 v0 6) = 4 := by rw [w167]; exact (x_at_1 h164)
    have h170 : x_tag M166 a157 = 6 + 10 := by rw [w167]; exact h165
    refine x_aast4' 170 dX8_init_170 h164 h165 w167 ?_
    refine x_iinc 171 1 ((0 : Int32) + (1 : Int32)) [some (.ref v0), some (.int ((0 : Int32) + (1 : Int32)))] dX8_init_171 rfl (congrArg (fun z : Int32 => (0 : Int32) + z) (show Int32.ofInt (1) = (1 : Int32) by decide)) rfl (Nat.le_of_ble_eq_true rfl) rfl ?_
    refine x_goto 174 149 dX8_init_174 (by decide) ?_
    refine x_iload_n 149 1 dX8_init_149 rfl rfl ?_
    refine x_aload_n 150 0 dX8_init_150 rfl rfl ?_
    obtain ⟨h171, H⟩ := x_ckp H
    refine x_getf 151 37 8 6 (.ref (x_r M166 v0 6)) dX8_init_151 lk_363 (by decide) (by decide) rfl (fun _ => rfl) h171 ?_
    obtain ⟨h172, H⟩ := x_ckp H
    refine x_alen 154 4 dX8_init_154 h172 (by decide) ?_
    refine x_icmp_ge 155 177 dX8_init_155 (by decide) (fun c173 => ?_) (fun c173 => ?_)
    · replace H := x_ifp c173 H
      cases H
      exact x_vret 177 dX8_init_177 rfl (Nat.le_of_ble_eq_true rfl) (Nat.le_of_ble_eq_true rfl) ⟨rfl, rfl⟩
    · replace H := x_ifn c173 H
      refine x_aload_n 158 0 dX8_init_158 rfl rfl ?_
      refine x_getf 159 37 8 6 (.ref (x_r M166 v0 6)) dX8_init_159 lk_363 (by decide) (by decide) rfl (fun _ => rfl) h171 ?_
      refine x_iload_n 162 1 dX8_init_162 rfl rfl ?_
      obtain ⟨a175, M174, w176, w177, H⟩ := x_al_of H
      refine x_newc' 163 35 6 dX8_init_163 (by decide) lk_229 lk_334 lk_93 (Nat.le_of_ble_eq_true rfl) (Nat.le_of_ble_eq_true rfl) w176 w177 ?_
      have h178 : x_tag M174 a175 = 6 + 10 := x_al_tag w176 w177
      change AW _ _ _ _ _ _ 52 7423 _ _ _ _
      refine x_dup 166 dX8_init_166 rfl ?_
      obtain ⟨M179, e181, H⟩ := x_bv_of H
      refine x_callIN 167 86 [] [(.ref a175), (.int ((0 : Int32) + (1 : Int32))), (.ref (x_r M166 v0 6))] dX8_init_167 (ct_X6_init l e181) (List.mem_of_getElem? (i := 7) rfl) rfl rfl lk_336 h178 lk_93 lk_337 ⟨cn_X6_init, (by decide), by decide⟩ rfl (Nat.le_of_ble_eq_true rfl) (Nat.le_of_ble_eq_true rfl) (Nat.le_of_ble_eq_true rfl) (x_rv ?_)
      change AW _ _ _ _ _ _ 53 7583 _ _ _ _
      obtain ⟨h182, H⟩ := x_ckp H
      obtain ⟨h183, H⟩ := x_ckp H
      obtain ⟨M184, w185, H⟩ := x_lt_of H
      have h186 : x_at M184 (x_r M166 v0 6) 4 ((0 : Int32) + (1 : Int32)) = true := by rw [w185]; exact h182
      have h187 : x_tag M184 (x_r M166 v0 6) = 4 := by rw [w185]; exact (x_at_1 h182)
      have h188 : x_tag M184 a175 = 6 + 10 := by rw [w185]; exact h183
      refine x_aast4' 170 dX8_init_170 h182 h183 w185 ?_
      refine x_iinc 171 1 (((0 : Int32) + (1 : Int32)) + (1 : Int32)) [some (.ref v0), some (.int (((0 : Int32) + (1 : Int32)) + (1 : Int32)))] dX8_init_171 rfl (congrArg (fun z : Int32 => ((0 : Int32) + (1 : Int32)) + z) (show Int32.ofInt (1) = (1 : Int32) by decide)) rfl (Nat.le_of_ble_eq_true rfl) rfl ?_
      refine x_goto 174 149 dX8_init_174 (by decide) ?_
      refine x_iload_n 149 1 dX8_init_149 rfl rfl ?_
      refine x_aload_n 150 0 dX8_init_150 rfl rfl ?_
      obtain ⟨h189, H⟩ := x_ckp H
      refine x_getf 151 37 8 6 (.ref (x_r M184 v0 6)) dX8_init_151 lk_363 (by decide) (by decide) rfl (fun _ => rfl) h189 ?_
      obtain ⟨h190, H⟩ := x_ckp H
      refine x_alen 154 4 dX8_init_154 h190 (by decide) ?_
      refine x_icmp_ge 155 177 dX8_init_155 (by decide) (fun c191 => ?_) (fun c191 => ?_)
      · replace H := x_ifp c191 H
        cases H
        exact x_vret 177 dX8_init_177 rfl (Nat.le_of_ble_eq_true rfl) (Nat.le_of_ble_eq_true rfl) ⟨rfl, rfl⟩
      · replace H := x_ifn c191 H
        refine x_aload_n 158 0 dX8_init_158 rfl rfl ?_
        refine x_getf 159 37 8 6 (.ref (x_r M184 v0 6)) dX8_init_159 lk_363 (by decide) (by decide) rfl (fun _ => rfl) h189 ?_
        refine x_iload_n 162 1 dX8_init_162 rfl rfl ?_
        obtain ⟨a193, M192, w194, w195, H⟩ := x_al_of H
        refine x_newc' 163 35 6 dX8_init_163 (by decide) lk_229 lk_334 lk_93 (Nat.le_of_ble_eq_true rfl) (Nat.le_of_ble_eq_true rfl) w194 w195 ?_
        have h196 : x_tag M192 a193 = 6 + 10 := x_al_tag w194 w195
        change AW _ _ _ _ _ _ 54 7587 _ _ _ _
        refine x_dup 166 dX8_init_166 rfl ?_
        obtain ⟨M197, e199, H⟩ := x_bv_of H
        refine x_callIN 167 86 [] [(.ref a193), (.int (((0 : Int32) + (1 : Int32)) + (1 : Int32))), (.ref (x_r M184 v0 6))] dX8_init_167 (ct_X6_init l e199) (List.mem_of_getElem? (i := 7) rfl) rfl rfl lk_336 h196 lk_93 lk_337 ⟨cn_X6_init, (by decide), by decide⟩ rfl (Nat.le_of_ble_eq_true rfl) (Nat.le_of_ble_eq_true rfl) (Nat.le_of_ble_eq_true rfl) (x_rv ?_)
        change AW _ _ _ _ _ _ 55 7747 _ _ _ _
        obtain ⟨h200, H⟩ := x_ckp H
        obtain ⟨h201, H⟩ := x_ckp H
        obtain ⟨M202, w203, H⟩ := x_lt_of H
        have h204 : x_at M202 (x_r M184 v0 6) 4 (((0 : Int32) + (1 : Int32)) + (1 : Int32)) = true := by rw [w203]; exact h200
        have h205 : x_tag M202 (x_r M184 v0 6) = 4 := by rw [w203]; exact (x_at_1 h200)
        have h206 : x_tag M202 a193 = 6 + 10 := by rw [w203]; exact h201
        refine x_aast4' 170 dX8_init_170 h200 h201 w203 ?_
        refine x_iinc 171 1 ((((0 : Int32) + (1 : Int32)) + (1 : Int32)) + (1 : Int32)) [some (.ref v0), some (.int ((((0 : Int32) + (1 : Int32)) + (1 : Int32)) + (1 : Int32)))] dX8_init_171 rfl (congrArg (fun z : Int32 => (((0 : Int32) + (1 : Int32)) + (1 : Int32)) + z) (show Int32.ofInt (1) = (1 : Int32) by decide)) rfl (Nat.le_of_ble_eq_true rfl) rfl ?_
        refine x_goto 174 149 dX8_init_174 (by decide) ?_
        refine x_iload_n 149 1 dX8_init_149 rfl rfl ?_
        refine x_aload_n 150 0 dX8_init_150 rfl rfl ?_
        obtain ⟨h207, H⟩ := x_ckp H
        refine x_getf 151 37 8 6 (.ref (x_r M202 v0 6)) dX8_init_151 lk_363 (by decide) (by decide) rfl (fun _ => rfl) h207 ?_
        obtain ⟨h208, H⟩ := x_ckp H
        refine x_alen 154 4 dX8_init_154 h208 (by decide) ?_
        refine x_icmp_ge 155 177 dX8_init_155 (by decide) (fun c209 => ?_) (fun c209 => ?_)
        · replace H := x_ifp c209 H
          cases H
          exact x_vret 177 dX8_init_177 rfl (Nat.le_of_ble_eq_true rfl) (Nat.le_of_ble_eq_true rfl) ⟨rfl, rfl⟩
        · replace H := x_ifn c209 H
          refine x_aload_n 158 0 dX8_init_158 rfl rfl ?_
          refine x_getf 159 37 8 6 (.ref (x_r M202 v0 6)) dX8_init_159 lk_363 (by decide) (by decide) rfl (fun _ => rfl) h207 ?_
          refine x_iload_n 162 1 dX8_init_162 rfl rfl ?_
          obtain ⟨a211, M210, w212, w213, H⟩ := x_al_of H
          refine x_newc' 163 35 6 dX8_init_163 (by decide) lk_229 lk_334 lk_93 (Nat.le_of_ble_eq_true rfl) (Nat.le_of_ble_eq_true rfl) w212 w213 ?_
          have h214 : x_tag M210 a211 = 6 + 10 := x_al_tag w212 w213
          change AW _ _ _ _ _ _ 56 7751 _ _ _ _
          refine x_dup 166 dX8_init_166 rfl ?_
          obtain ⟨M215, e217, H⟩ := x_bv_of H
          refine x_callIN 167 86 [] [(.ref a211), (.int ((((0 : Int32) + (1 : Int32)) + (1 : Int32)) + (1 : Int32))), (.ref (x_r M202 v0 6))] dX8_init_167 (ct_X6_init l e217) (List.mem_of_getElem? (i := 7) rfl) rfl rfl lk_336 h214 lk_93 lk_337 ⟨cn_X6_init, (by decide), by decide⟩ rfl (Nat.le_of_ble_eq_true rfl) (Nat.le_of_ble_eq_true rfl) (Nat.le_of_ble_eq_true rfl) (x_rv ?_)
          change AW _ _ _ _ _ _ 57 7911 _ _ _ _
          obtain ⟨h218, H⟩ := x_ckp H
          obtain ⟨h219, H⟩ := x_ckp H
          obtain ⟨M220, w221, H⟩ := x_lt_of H
          have h222 : x_at M220 (x_r M202 v0 6) 4 ((((0 : Int32) + (1 : Int32)) + (1 : Int32)) + (1 : Int32)) = true := by rw [w221]; exact h218
          have h223 : x_tag M220 (x_r M202 v0 6) = 4 := by rw [w221]; exact (x_at_1 h218)
          have h224 : x_tag M220 a211 = 6 + 10 := by rw [w221]; exact h219
          refine x_aast4' 170 dX8_init_170 h218 h219 w221 ?_
          refine x_iinc 171 1 (((((0 : Int32) + (1 : Int32)) + (1 : Int32)) + (1 : Int32)) + (1 : Int32)) [some (.ref v0), some (.int (((((0 : Int32) + (1 : Int32)) + (1 : Int32)) + (1 : Int32)) + (1 : Int32)))] dX8_init_171 rfl (congrArg (fun z : Int32 => ((((0 : Int32) + (1 : Int32)) + (1 : Int32)) + (1 : Int32)) + z) (show Int32.ofInt (1) = (1 : Int32) by decide)) rfl (Nat.le_of_ble_eq_true rfl) rfl ?_
          refine x_goto 174 149 dX8_init_174 (by decide) ?_
          refine x_iload_n 149 1 dX8_init_149 rfl rfl ?_
          refine x_aload_n 150 0 dX8_init_150 rfl rfl ?_
          obtain ⟨h225, H⟩ := x_ckp H
          refine x_getf 151 37 8 6 (.ref (x_r M220 v0 6)) dX8_init_151 lk_363 (by decide) (by decide) rfl (fun _ => rfl) h225 ?_
          obtain ⟨h226, H⟩ := x_ckp H
          refine x_alen 154 4 dX8_init_154 h226 (by decide) ?_
          refine x_icmp_ge 155 177 dX8_init_155 (by decide) (fun c227 => ?_) (fun c227 => ?_)
          · replace H := x_ifp c227 H
            cases H
            exact x_vret 177 dX8_init_177 rfl (Nat.le_of_ble_eq_true rfl) (Nat.le_of_ble_eq_true rfl) ⟨rfl, rfl⟩
          · replace H := x_ifn c227 H
            refine x_aload_n 158 0 dX8_init_158 rfl rfl ?_
            refine x_getf 159 37 8 6 (.ref (x_r M220 v0 6)) dX8_init_159 lk_363 (by decide) (by decide) rfl (fun _ => rfl) h225 ?_
            refine x_iload_n 162 1 dX8_init_162 rfl rfl ?_
            obtain ⟨a229, M228, w230, w231, H⟩ := x_al_of H
            refine x_newc' 163 35 6 dX8_init_163 (by decide) lk_229 lk_334 lk_93 (Nat.le_of_ble_eq_true rfl) (Nat.le_of_ble_eq_true rfl) w230 w231 ?_
            have h232 : x_tag M228 a229 = 6 + 10 := x_al_tag w230 w231
            change AW _ _ _ _ _ _ 58 7915 _ _ _ _
            refine x_dup 166 dX8_init_166 rfl ?_
            obtain ⟨M233, e235, H⟩ := x_bv_of H
            refine x_callIN 167 86 [] [(.ref a229), (.int (((((0 : Int32) + (1 : Int32)) + (1 : Int32)) + (1 : Int32)) + (1 : Int32))), (.ref (x_r M220 v0 6))] dX8_init_167 (ct_X6_init l e235) (List.mem_of_getElem? (i := 7) rfl) rfl rfl lk_336 h232 lk_93 lk_337 ⟨cn_X6_init, (by decide), by decide⟩ rfl (Nat.le_of_ble_eq_true rfl) (Nat.le_of_ble_eq_true rfl) (Nat.le_of_ble_eq_true rfl) (x_rv ?_)
            change AW _ _ _ _ _ _ 59 8075 _ _ _ _
            obtain ⟨h236, H⟩ := x_ckp H
            obtain ⟨h237, H⟩ := x_ckp H
            obtain ⟨M238, w239, H⟩ := x_lt_of H
            have h240 : x_at M238 (x_r M220 v0 6) 4 (((((0 : Int32) + (1 : Int32)) + (1 : Int32)) + (1 : Int32)) + (1 : Int32)) = true := by rw [w239]; exact h236
            have h241 : x_tag M238 (x_r M220 v0 6) = 4 := by rw [w239]; exact (x_at_1 h236)
            have h242 : x_tag M238 a229 = 6 + 10 := by rw [w239]; exact h237
            refine x_aast4' 170 dX8_init_170 h236 h237 w239 ?_
            refine x_iinc 171 1 ((((((0 : Int32) + (1 : Int32)) + (1 : Int32)) + (1 : Int32)) + (1 : Int32)) + (1 : Int32)) [some (.ref v0), some (.int ((((((0 : Int32) + (1 : Int32)) + (1 : Int32)) + (1 : Int32)) + (1 : Int32)) + (1 : Int32)))] dX8_init_171 rfl (congrArg (fun z : Int32 => (((((0 : Int32) + (1 : Int32)) + (1 : Int32)) + (1 : Int32)) + (1 : Int32)) + z) (show Int32.ofInt (1) = (1 : Int32) by decide)) rfl (Nat.le_of_ble_eq_true rfl) rfl ?_
            refine x_goto 174 149 dX8_init_174 (by decide) ?_
            refine x_iload_n 149 1 dX8_init_149 rfl rfl ?_
            refine x_aload_n 150 0 dX8_init_150 rfl rfl ?_
            obtain ⟨h243, H⟩ := x_ckp H
            refine x_getf 151 37 8 6 (.ref (x_r M238 v0 6)) dX8_init_151 lk_363 (by decide) (by decide) rfl (fun _ => rfl) h243 ?_
            obtain ⟨h244, H⟩ := x_ckp H
            refine x_alen 154 4 dX8_init_154 h244 (by decide) ?_
            refine x_icmp_ge 155 177 dX8_init_155 (by decide) (fun c245 => ?_) (fun c245 => ?_)
            · replace H := x_ifp c245 H
              cases H
              exact x_vret 177 dX8_init_177 rfl (Nat.le_of_ble_eq_true rfl) (Nat.le_of_ble_eq_true rfl) ⟨rfl, rfl⟩
            · replace H := x_ifn c245 H
              refine x_aload_n 158 0 dX8_init_158 rfl rfl ?_
              refine x_getf 159 37 8 6 (.ref (x_r M238 v0 6)) dX8_init_159 lk_363 (by decide) (by decide) rfl (fun _ => rfl) h243 ?_
              refine x_iload_n 162 1 dX8_init_162 rfl rfl ?_
              obtain ⟨a247, M246, w248, w249, H⟩ := x_al_of H
              refine x_newc' 163 35 6 dX8_init_163 (by decide) lk_229 lk_334 lk_93 (Nat.le_of_ble_eq_true rfl) (Nat.le_of_ble_eq_true rfl) w248 w249 ?_
              have h250 : x_tag M246 a247 = 6 + 10 := x_al_tag w248 w249
              change AW _ _ _ _ _ _ 60 8079 _ _ _ _
              refine x_dup 166 dX8_init_166 rfl ?_
              obtain ⟨M251, e253, H⟩ := x_bv_of H
              refine x_callIN 167 86 [] [(.ref a247), (.int ((((((0 : Int32) + (1 : Int32)) + (1 : Int32)) + (1 : Int32)) + (1 : Int32)) + (1 : Int32))), (.ref (x_r M238 v0 6))] dX8_init_167 (ct_X6_init l e253) (List.mem_of_getElem? (i := 7) rfl) rfl rfl lk_336 h250 lk_93 lk_337 ⟨cn_X6_init, (by decide), by decide⟩ rfl (Nat.le_of_ble_eq_true rfl) (Nat.le_of_ble_eq_true rfl) (Nat.le_of_ble_eq_true rfl) (x_rv ?_)
              change AW _ _ _ _ _ _ 61 8239 _ _ _ _
              obtain ⟨h254, H⟩ := x_ckp H
              obtain ⟨h255, H⟩ := x_ckp H
              obtain ⟨M256, w257, H⟩ := x_lt_of H
              have h258 : x_at M256 (x_r M238 v0 6) 4 ((((((0 : Int32) + (1 : Int32)) + (1 : Int32)) + (1 : Int32)) + (1 : Int32)) + (1 : Int32)) = true := by rw [w257]; exact h254
              have h259 : x_tag M256 (x_r M238 v0 6) = 4 := by rw [w257]; exact (x_at_1 h254)
              have h260 : x_tag M256 a247 = 6 + 10 := by rw [w257]; exact h255
              refine x_aast4' 170 dX8_init_170 h254 h255 w257 ?_
              refine x_iinc 171 1 (((((((0 : Int32) + (1 : Int32)) + (1 : Int32)) + (1 : Int32)) + (1 : Int32)) + (1 : Int32)) + (1 : Int32)) [some (.ref v0), some (.int (((((((0 : Int32) + (1 : Int32)) + (1 : Int32)) + (1 : Int32)) + (1 : Int32)) + (1 : Int32)) + (1 : Int32)))] dX8_init_171 rfl (congrArg (fun z : Int32 => ((((((0 : Int32) + (1 : Int32)) + (1 : Int32)) + (1 : Int32)) + (1 : Int32)) + (1 : Int32)) + z) (show Int32.ofInt (1) = (1 : Int32) by decide)) rfl (Nat.le_of_ble_eq_true rfl) rfl ?_
              refine x_goto 174 149 dX8_init_174 (by decide) ?_
              refine x_iload_n 149 1 dX8_init_149 rfl rfl ?_
              refine x_aload_n 150 0 dX8_init_150 rfl rfl ?_
              obtain ⟨h261, H⟩ := x_ckp H
              refine x_getf 151 37 8 6 (.ref (x_r M256 v0 6)) dX8_init_151 lk_363 (by decide) (by decide) rfl (fun _ => rfl) h261 ?_
              obtain ⟨h262, H⟩ := x_ckp H
              refine x_alen 154 4 dX8_init_154 h262 (by decide) ?_
              refine x_icmp_ge 155 177 dX8_init_155 (by decide) (fun c263 => ?_) (fun c263 => ?_)
              · replace H := x_ifp c263 H
                cases H
                exact x_vret 177 dX8_init_177 rfl (Nat.le_of_ble_eq_true rfl) (Nat.le_of_ble_eq_true rfl) ⟨rfl, rfl⟩
              · replace H := x_ifn c263 H
                refine x_aload_n 158 0 dX8_init_158 rfl rfl ?_
                refine x_getf 159 37 8 6 (.ref (x_r M256 v0 6)) dX8_init_159 lk_363 (by decide) (by decide) rfl (fun _ => rfl) h261 ?_
                refine x_iload_n 162 1 dX8_init_162 rfl rfl ?_
                obtain ⟨a265, M264, w266, w267, H⟩ := x_al_of H
                refine x_newc' 163 35 6 dX8_init_163 (by decide) lk_229 lk_334 lk_93 (Nat.le_of_ble_eq_true rfl) (Nat.le_of_ble_eq_true rfl) w266 w267 ?_
                have h268 : x_tag M264 a265 = 6 + 10 := x_al_tag w266 w267
                change AW _ _ _ _ _ _ 62 8243 _ _ _ _
                refine x_dup 166 dX8_init_166 rfl ?_
                obtain ⟨M269, e271, H⟩ := x_bv_of H
                refine x_callIN 167 86 [] [(.ref a265), (.int (((((((0 : Int32) + (1 : Int32)) + (1 : Int32)) + (1 : Int32)) + (1 : Int32)) + (1 : Int32)) + (1 : Int32))), (.ref (x_r M256 v0 6))] dX8_init_167 (ct_X6_init l e271) (List.mem_of_getElem? (i := 7) rfl) rfl rfl lk_336 h268 lk_93 lk_337 ⟨cn_X6_init, (by decide), by decide⟩ rfl (Nat.le_of_ble_eq_true rfl) (Nat.le_of_ble_eq_true rfl) (Nat.le_of_ble_eq_true rfl) (x_rv ?_)
                change AW _ _ _ _ _ _ 63 8403 _ _ _ _
                obtain ⟨h272, H⟩ := x_ckp H
                obtain ⟨h273, H⟩ := x_ckp H
                obtain ⟨M274, w275, H⟩ := x_lt_of H
                have h276 : x_at M274 (x_r M256 v0 6) 4 (((((((0 : Int32) + (1 : Int32)) + (1 : Int32)) + (1 : Int32)) + (1 : Int32)) + (1 : Int32)) + (1 : Int32)) = true := by rw [w275]; exact h272
                have h277 : x_tag M274 (x_r M256 v0 6) = 4 := by rw [w275]; exact (x_at_1 h272)
                have h278 : x_tag M274 a265 = 6 + 10 := by rw [w275]; exact h273
                refine x_aast4' 170 dX8_init_170 h272 h273 w275 ?_
                refine x_iinc 171 1 ((((((((0 : Int32) + (1 : Int32)) + (1 : Int32)) + (1 : Int32)) + (1 : Int32)) + (1 : Int32)) + (1 : Int32)) + (1 : Int32)) [some (.ref v0), some (.int ((((((((0 : Int32) + (1 : Int32)) + (1 : Int32)) + (1 : Int32)) + (1 : Int32)) + (1 : Int32)) + (1 : Int32)) + (1 : Int32)))] dX8_init_171 rfl (congrArg (fun z : Int32 => (((((((0 : Int32) + (1 : Int32)) + (1 : Int32)) + (1 : Int32)) + (1 : Int32)) + (1 : Int32)) + (1 : Int32)) + z) (show Int32.ofInt (1) = (1 : Int32) by decide)) rfl (Nat.le_of_ble_eq_true rfl) rfl ?_
                refine x_goto 174 149 dX8_init_174 (by decide) ?_
                refine x_iload_n 149 1 dX8_init_149 rfl rfl ?_
                refine x_aload_n 150 0 dX8_init_150 rfl rfl ?_
                obtain ⟨h279, H⟩ := x_ckp H
                refine x_getf 151 37 8 6 (.ref (x_r M274 v0 6)) dX8_init_151 lk_363 (by decide) (by decide) rfl (fun _ => rfl) h279 ?_
                obtain ⟨h280, H⟩ := x_ckp H
                refine x_alen 154 4 dX8_init_154 h280 (by decide) ?_
                refine x_icmp_ge 155 177 dX8_init_155 (by decide) (fun c281 => ?_) (fun c281 => ?_)
                · replace H := x_ifp c281 H
                  cases H
                  exact x_vret 177 dX8_init_177 rfl (Nat.le_of_ble_eq_true rfl) (Nat.le_of_ble_eq_true rfl) ⟨rfl, rfl⟩
                · replace H := x_ifn c281 H
                  refine x_aload_n 158 0 dX8_init_158 rfl rfl ?_
                  refine x_getf 159 37 8 6 (.ref (x_r M274 v0 6)) dX8_init_159 lk_363 (by decide) (by decide) rfl (fun _ => rfl) h279 ?_
                  refine x_iload_n 162 1 dX8_init_162 rfl rfl ?_
                  obtain ⟨a283, M282, w284, w285, H⟩ := x_al_of H
                  refine x_newc' 163 35 6 dX8_init_163 (by decide) lk_229 lk_334 lk_93 (Nat.le_of_ble_eq_true rfl) (Nat.le_of_ble_eq_true rfl) w284 w285 ?_
                  have h286 : x_tag M282 a283 = 6 + 10 := x_al_tag w284 w285
                  change AW _ _ _ _ _ _ 64 8407 _ _ _ _
                  refine x_dup 166 dX8_init_166 rfl ?_
                  obtain ⟨M287, e289, H⟩ := x_bv_of H
                  refine x_callIN 167 86 [] [(.ref a283), (.int ((((((((0 : Int32) + (1 : Int32)) + (1 : Int32)) + (1 : Int32)) + (1 : Int32)) + (1 : Int32)) + (1 : Int32)) + (1 : Int32))), (.ref (x_r M274 v0 6))] dX8_init_167 (ct_X6_init l e289) (List.mem_of_getElem? (i := 7) rfl) rfl rfl lk_336 h286 lk_93 lk_337 ⟨cn_X6_init, (by decide), by decide⟩ rfl (Nat.le_of_ble_eq_true rfl) (Nat.le_of_ble_eq_true rfl) (Nat.le_of_ble_eq_true rfl) (x_rv ?_)
                  change AW _ _ _ _ _ _ 65 8567 _ _ _ _
                  obtain ⟨h290, H⟩ := x_ckp H
                  obtain ⟨h291, H⟩ := x_ckp H
                  obtain ⟨M292, w293, H⟩ := x_lt_of H
                  have h294 : x_at M292 (x_r M274 v0 6) 4 ((((((((0 : Int32) + (1 : Int32)) + (1 : Int32)) + (1 : Int32)) + (1 : Int32)) + (1 : Int32)) + (1 : Int32)) + (1 : Int32)) = true := by rw [w293]; exact h290
                  have h295 : x_tag M292 (x_r M274 v0 6) = 4 := by rw [w293]; exact (x_at_1 h290)
                  have h296 : x_tag M292 a283 = 6 + 10 := by rw [w293]; exact h291
                  refine x_aast4' 170 dX8_init_170 h290 h291 w293 ?_
                  refine x_iinc 171 1 (((((((((0 : Int32) + (1 : Int32)) + (1 : Int32)) + (1 : Int32)) + (1 : Int32)) + (1 : Int32)) + (1 : Int32)) + (1 : Int32)) + (1 : Int32)) [some (.ref v0), some (.int (((((((((0 : Int32) + (1 : Int32)) + (1 : Int32)) + (1 : Int32)) + (1 : Int32)) + (1 : Int32)) + (1 : Int32)) + (1 : Int32)) + (1 : Int32)))] dX8_init_171 rfl (congrArg (fun z : Int32 => ((((((((0 : Int32) + (1 : Int32)) + (1 : Int32)) + (1 : Int32)) + (1 : Int32)) + (1 : Int32)) + (1 : Int32)) + (1 : Int32)) + z) (show Int32.ofInt (1) = (1 : Int32) by decide)) rfl (Nat.le_of_ble_eq_true rfl) rfl ?_
                  refine x_goto 174 149 dX8_init_174 (by decide) ?_
                  refine x_iload_n 149 1 dX8_init_149 rfl rfl ?_
                  refine x_aload_n 150 0 dX8_init_150 rfl rfl ?_
                  obtain ⟨h297, H⟩ := x_ckp H
                  refine x_getf 151 37 8 6 (.ref (x_r M292 v0 6)) dX8_init_151 lk_363 (by decide) (by decide) rfl (fun _ => rfl) h297 ?_
                  obtain ⟨h298, H⟩ := x_ckp H
                  refine x_alen 154 4 dX8_init_154 h298 (by decide) ?_
                  refine x_icmp_ge 155 177 dX8_init_155 (by decide) (fun c299 => ?_) (fun c299 => ?_)
                  · replace H := x_ifp c299 H
                    cases H
                    exact x_vret 177 dX8_init_177 rfl (Nat.le_of_ble_eq_true rfl) (Nat.le_of_ble_eq_true rfl) ⟨rfl, rfl⟩
                  · replace H := x_ifn c299 H
                    refine x_aload_n 158 0 dX8_init_158 rfl rfl ?_
                    refine x_getf 159 37 8 6 (.ref (x_r M292 v0 6)) dX8_init_159 lk_363 (by decide) (by decide) rfl (fun _ => rfl) h297 ?_
                    refine x_iload_n 162 1 dX8_init_162 rfl rfl ?_
                    obtain ⟨a301, M300, w302, w303, H⟩ := x_al_of H
                    refine x_newc' 163 35 6 dX8_init_163 (by decide) lk_229 lk_334 lk_93 (Nat.le_of_ble_eq_true rfl) (Nat.le_of_ble_eq_true rfl) w302 w303 ?_
                    have h304 : x_tag M300 a301 = 6 + 10 := x_al_tag w302 w303
                    change AW _ _ _ _ _ _ 66 8571 _ _ _ _
                    refine x_dup 166 dX8_init_166 rfl ?_
                    obtain ⟨M305, e307, H⟩ := x_bv_of H
                    refine x_callIN 167 86 [] [(.ref a301), (.int (((((((((0 : Int32) + (1 : Int32)) + (1 : Int32)) + (1 : Int32)) + (1 : Int32)) + (1 : Int32)) + (1 : Int32)) + (1 : Int32)) + (1 : Int32))), (.ref (x_r M292 v0 6))] dX8_init_167 (ct_X6_init l e307) (List.mem_of_getElem? (i := 7) rfl) rfl rfl lk_336 h304 lk_93 lk_337 ⟨cn_X6_init, (by decide), by decide⟩ rfl (Nat.le_of_ble_eq_true rfl) (Nat.le_of_ble_eq_true rfl) (Nat.le_of_ble_eq_true rfl) (x_rv ?_)
                    change AW _ _ _ _ _ _ 67 8731 _ _ _ _
                    obtain ⟨h308, H⟩ := x_ckp H
                    obtain ⟨h309, H⟩ := x_ckp H
                    obtain ⟨M310, w311, H⟩ := x_lt_of H
                    have h312 : x_at M310 (x_r M292 v0 6) 4 (((((((((0 : Int32) + (1 : Int32)) + (1 : Int32)) + (1 : Int32)) + (1 : Int32)) + (1 : Int32)) + (1 : Int32)) + (1 : Int32)) + (1 : Int32)) = true := by rw [w311]; exact h308
                    have h313 : x_tag M310 (x_r M292 v0 6) = 4 := by rw [w311]; exact (x_at_1 h308)
                    have h314 : x_tag M310 a301 = 6 + 10 := by rw [w311]; exact h309
                    refine x_aast4' 170 dX8_init_170 h308 h309 w311 ?_
                    refine x_iinc 171 1 ((((((((((0 : Int32) + (1 : Int32)) + (1 : Int32)) + (1 : Int32)) + (1 : Int32)) + (1 : Int32)) + (1 : Int32)) + (1 : Int32)) + (1 : Int32)) + (1 : Int32)) [some (.ref v0), some (.int ((((((((((0 : Int32) + (1 : Int32)) + (1 : Int32)) + (1 : Int32)) + (1 : Int32)) + (1 : Int32)) + (1 : Int32)) + (1 : Int32)) + (1 : Int32)) + (1 : Int32)))] dX8_init_171 rfl (congrArg (fun z : Int32 => (((((((((0 : Int32) + (1 : Int32)) + (1 : Int32)) + (1 : Int32)) + (1 : Int32)) + (1 : Int32)) + (1 : Int32)) + (1 : Int32)) + (1 : Int32)) + z) (show Int32.ofInt (1) = (1 : Int32) by decide)) rfl (Nat.le_of_ble_eq_true rfl) rfl ?_
                    refine x_goto 174 149 dX8_init_174 (by decide) ?_
                    cases H

theorem ct_X8_init (l : Launch) {v0 : Nat} {M : XM} {q : XM} (H : f_X8_init v0 M = some q) : Ct l m_X8_init 3 67 8731 [(.ref v0)] M (x_Rv q) := x_met l m_X8_init 3 67 8731 [(.ref v0)] M (x_Rv q) _ rfl rfl (Nat.le_of_ble_eq_true rfl) (t_X8_init l H)
abbrev m_X8_isShelf : XU := (yX8_isShelf, cX8_isShelf, 1, (some .boolean))
theorem cn_X8_isShelf : m_X8_isShelf.1.cls ≠ "java/lang/invoke/MethodHandle" ∧ m_X8_isShelf.1.cls ≠ "java/lang/invoke/VarHandle" ∧ (parseMethodDescriptor m_X8_isShelf.1.desc).map (fun q => q.parameters.length) = some 1 := by decide +kernel
def f_X8_isShelf (v0 : Int32) (M : XM) : Option (Int32 × XM) :=
  if v0 < 0 then (some ((0 : Int32), M)) else (if (8 : Int32) ≤ v0 then (some ((0 : Int32), M)) else (some ((1 : Int32), M)))
set_option maxRecDepth 20000 in
set_option maxHeartbeats 4000000 in
theorem t_X8_isShelf (l : Launch) {v0 : Int32} {M : XM} {q : Int32 × XM} (H : f_X8_isShelf v0 M = some q) : AW l m_X8_isShelf 1 0 0 (x_Ri q) 0 0 0 [some (.int v0)] [] M := by
  unfold f_X8_isShelf at H
  refine x_iload_n 0 0 dX8_isShelf_0 rfl rfl ?_
  refine x_if_lt 1 14 dX8_isShelf_1 (by decide) (fun c1 => ?_) (fun c1 => ?_)
  · replace H := x_ifp c1 H
    refine x_iconst 14 (0 : Int32) dX8_isShelf_14 (by decide) ?_
    cases H
    exact x_iret 15 dX8_isShelf_15 .boolean rfl rfl (Nat.le_of_ble_eq_true rfl) (Nat.le_of_ble_eq_true rfl) ⟨rfl, rfl⟩
  · replace H := x_ifn c1 H
    refine x_iload_n 4 0 dX8_isShelf_4 rfl rfl ?_
    refine x_bipush 5 (8 : Int32) dX8_isShelf_5 (by decide) ?_
    refine x_icmp_ge 7 14 dX8_isShelf_7 (by decide) (fun c2 => ?_) (fun c2 => ?_)
    · replace H := x_ifp c2 H
      refine x_iconst 14 (0 : Int32) dX8_isShelf_14 (by decide) ?_
      cases H
      exact x_iret 15 dX8_isShelf_15 .boolean rfl rfl (Nat.le_of_ble_eq_true rfl) (Nat.le_of_ble_eq_true rfl) ⟨rfl, rfl⟩
    · replace H := x_ifn c2 H
      refine x_iconst 10 (1 : Int32) dX8_isShelf_10 (by decide) ?_
      refine x_goto 11 15 dX8_isShelf_11 (by decide) ?_
      cases H
      exact x_iret 15 dX8_isShelf_15 .boolean rfl rfl (Nat.le_of_ble_eq_true rfl) (Nat.le_of_ble_eq_true rfl) ⟨rfl, rfl⟩

theorem ct_X8_isShelf (l : Launch) {v0 : Int32} {M : XM} {q : Int32 × XM} (H : f_X8_isShelf v0 M = some q) : Ct l m_X8_isShelf 1 0 0 [(.int v0)] M (x_Ri q) := x_met l m_X8_isShelf 1 0 0 [(.int v0)] M (x_Ri q) _ rfl rfl (Nat.le_of_ble_eq_true rfl) (t_X8_isShelf l H)
theorem lk_409 : Cond.code yX8_isShelf cX8_isShelf 1 (some .boolean) ∈ x_TB := x_tb (k := 409) (by decide +kernel) rfl
theorem lk_407 : Cond.methodLink RX8 87 yX8_isShelf ∈ x_TB := x_tb (k := 407) (by decide +kernel) rfl
theorem lk_408 : Cond.static yX8_isShelf ∈ x_TB := x_tb (k := 408) (by decide +kernel) rfl
abbrev m_X8_refuse : XU := (yX8_refuse, cX8_refuse, 2, (some .int))
theorem cn_X8_refuse : m_X8_refuse.1.cls ≠ "java/lang/invoke/MethodHandle" ∧ m_X8_refuse.1.cls ≠ "java/lang/invoke/VarHandle" ∧ (parseMethodDescriptor m_X8_refuse.1.desc).map (fun q => q.parameters.length) = some 1 := by decide +kernel
def f_X8_refuse (v0 : Nat) (v1 : Int32) (M : XM) : Option (Int32 × XM) :=
  if (0 : Int32) ≤ v1 then (some (v1, M)) else (if x_tag M v0 = 8 + 10 then (if x_tag M (x_r M v0 7) = 1 then (if (Int32.ofNat (x_len M (x_r M v0 7))) ≤ (-v1) then (some (v1, M)) else (if x_at M (x_r M v0 7) 1 (-v1) = true then (x_lt (x_wi M (x_r M v0 7) (-v1).toNatClampNeg ((x_i M (x_r M v0 7) (-v1).toNatClampNeg) + (1 : Int32))) (fun M6 => some (v1, M6))) else none)) else none) else none)
set_option maxRecDepth 20000 in
set_option maxHeartbeats 4000000 in
theorem t_X8_refuse (l : Launch) {v0 : Nat} {v1 : Int32} {M : XM} {q : Int32 × XM} (H : f_X8_refuse v0 v1 M = some q) : AW l m_X8_refuse 1 0 0 (x_Ri q) 0 0 0 [some (.ref v0), some (.int v1)] [] M := by
  unfold f_X8_refuse at H
  refine x_iload_n 0 1 dX8_refuse_0 rfl rfl ?_
  refine x_if_ge 1 25 dX8_refuse_1 (by decide) (fun c1 => ?_) (fun c1 => ?_)
  · replace H := x_ifp c1 H
    refine x_iload_n 25 1 dX8_refuse_25 rfl rfl ?_
    cases H
    exact x_iret 26 dX8_refuse_26 .int rfl rfl (Nat.le_of_ble_eq_true rfl) (Nat.le_of_ble_eq_true rfl) ⟨rfl, rfl⟩
  · replace H := x_ifn c1 H
    refine x_iload_n 4 1 dX8_refuse_4 rfl rfl ?_
    refine x_ineg 5 dX8_refuse_5 ?_
    refine x_aload_n 6 0 dX8_refuse_6 rfl rfl ?_
    obtain ⟨h2, H⟩ := x_ckp H
    refine x_getf 7 41 8 7 (.ref (x_r M v0 7)) dX8_refuse_7 lk_364 (by decide) (by decide) rfl (fun _ => rfl) h2 ?_
    obtain ⟨h3, H⟩ := x_ckp H
    refine x_alen 10 1 dX8_refuse_10 h3 (by decide) ?_
    refine x_icmp_ge 11 25 dX8_refuse_11 (by decide) (fun c4 => ?_) (fun c4 => ?_)
    · replace H := x_ifp c4 H
      refine x_iload_n 25 1 dX8_refuse_25 rfl rfl ?_
      cases H
      exact x_iret 26 dX8_refuse_26 .int rfl rfl (Nat.le_of_ble_eq_true rfl) (Nat.le_of_ble_eq_true rfl) ⟨rfl, rfl⟩
    · replace H := x_ifn c4 H
      refine x_aload_n 14 0 dX8_refuse_14 rfl rfl ?_
      refine x_getf 15 41 8 7 (.ref (x_r M v0 7)) dX8_refuse_15 lk_364 (by decide) (by decide) rfl (fun _ => rfl) h2 ?_
      refine x_iload_n 18 1 dX8_refuse_18 rfl rfl ?_
      refine x_ineg 19 dX8_refuse_19 ?_
      refine x_dup2 20 dX8_refuse_20 rfl rfl ?_
      obtain ⟨h5, H⟩ := x_ckp H
      refine x_iald 21 dX8_refuse_21 h5 ?_
      refine x_iconst 22 (1 : Int32) dX8_refuse_22 (by decide) ?_
      refine x_iadd 23 dX8_refuse_23 ?_
      obtain ⟨M6, w7, H⟩ := x_lt_of H
      have h8 : x_tag M6 v0 = 8 + 10 := by rw [w7]; exact h2
      have h9 : x_tag M6 (x_r M v0 7) = 1 := by rw [w7]; exact h3
      have h10 : x_at M6 (x_r M v0 7) 1 (-v1) = true := by rw [w7]; exact h5
      refine x_iast' 24 dX8_refuse_24 h5 w7 ?_
      refine x_iload_n 25 1 dX8_refuse_25 rfl rfl ?_
      cases H
      exact x_iret 26 dX8_refuse_26 .int rfl rfl (Nat.le_of_ble_eq_true rfl) (Nat.le_of_ble_eq_true rfl) ⟨rfl, rfl⟩

theorem ct_X8_refuse (l : Launch) {v0 : Nat} {v1 : Int32} {M : XM} {q : Int32 × XM} (H : f_X8_refuse v0 v1 M = some q) : Ct l m_X8_refuse 1 0 0 [(.ref v0), (.int v1)] M (x_Ri q) := x_met l m_X8_refuse 1 0 0 [(.ref v0), (.int v1)] M (x_Ri q) _ rfl rfl (Nat.le_of_ble_eq_true rfl) (t_X8_refuse l H)
theorem lk_413 : Cond.code yX8_refuse cX8_refuse 2 (some .int) ∈ x_TB := x_tb (k := 413) (by decide +kernel) rfl
theorem lk_410 : Cond.methodLink RX8 91 yX8_refuse ∈ x_TB := x_tb (k := 410) (by decide +kernel) rfl
theorem lk_0 : Cond.selects RX8 yX8_refuse yX8_refuse ∈ x_TB := x_tb (k := 0) (by decide +kernel) rfl
theorem lk_412 : Cond.instanceMethod yX8_refuse ∈ x_TB := x_tb (k := 412) (by decide +kernel) rfl
theorem lk_417 : Cond.code yX6_holdRow cX6_holdRow 3 none ∈ x_TB := x_tb (k := 417) (by decide +kernel) rfl
theorem lk_414 : Cond.methodLink RX8 95 yX6_holdRow ∈ x_TB := x_tb (k := 414) (by decide +kernel) rfl
theorem lk_416 : Cond.selects RX6 yX6_holdRow yX6_holdRow ∈ x_TB := x_tb (k := 416) (by decide +kernel) rfl
theorem lk_415 : Cond.instanceMethod yX6_holdRow ∈ x_TB := x_tb (k := 415) (by decide +kernel) rfl
abbrev m_X8_row : XU := (yX8_row, cX8_row, 4, (some .int))
theorem cn_X8_row : m_X8_row.1.cls ≠ "java/lang/invoke/MethodHandle" ∧ m_X8_row.1.cls ≠ "java/lang/invoke/VarHandle" ∧ (parseMethodDescriptor m_X8_row.1.desc).map (fun q => q.parameters.length) = some 3 := by decide +kernel
def f_X8_row_33 (v0 : Nat) (M : XM) : Option (Int32 × XM) :=
  if x_tag M v0 = 8 + 10 then (x_bd (f_X8_refuse v0 (-6 : Int32) M) (fun r13 M12 => some (r13, M12))) else none
set_option maxRecDepth 20000 in
set_option maxHeartbeats 4000000 in
theorem t_X8_row_33 (l : Launch) {v0 : Nat} {M : XM} {q : Int32 × XM} (H : f_X8_row_33 v0 M = some q) : AW l m_X8_row 3 0 0 (x_Ri q) 0 0 33 [some (.ref v0), none, none, none] [] M := by
  unfold f_X8_row_33 at H
  refine x_aload_n 33 0 dX8_row_33 rfl rfl ?_
  refine x_bipush 34 (-6 : Int32) dX8_row_34 (by decide) ?_
  obtain ⟨h11, H⟩ := x_ckp H
  obtain ⟨r13, M12, e14, H⟩ := x_bd_of H
  refine x_callV 36 91 8 [(.int (-6 : Int32))] [] dX8_row_36 (ct_X8_refuse l e14) lk_410 lk_412 lk_0 (by decide) h11 lk_85 lk_413 ⟨cn_X8_refuse, (by decide), by decide⟩ rfl (Nat.le_of_ble_eq_true rfl) (Nat.le_of_ble_eq_true rfl) (Nat.le_of_ble_eq_true rfl) (x_ri ?_)
  cases H
  exact x_iret 39 dX8_row_39 .int rfl rfl (Nat.le_of_ble_eq_true rfl) (Nat.le_of_ble_eq_true rfl) ⟨rfl, rfl⟩

def f_X8_row_c1 (v0 : Nat) (v1 : Int32) (v2 : Int32) (v3 : Int32) (s0 : Int32) (M : XM) : Option (Int32 × XM) :=
  if s0 = 0 then (if x_tag M v0 = 8 + 10 then (x_bd (f_X8_refuse v0 (-1 : Int32) M) (fun r7 M6 => some (r7, M6))) else none) else (if (0 : Int32) ≤ v3 then (if v2 < 0 then (f_X8_row_33 v0 M) else (if v2 ≤ (3 : Int32) then (if v3 ≤ (160 : Int32) then (if x_tag M v0 = 8 + 10 then (if x_at M (x_r M v0 6) 4 v1 = true then (if x_tag M (x_r M (x_r M v0 6) v1.toNatClampNeg) = 6 + 10 then (x_bv (f_X6_holdRow (x_r M (x_r M v0 6) v1.toNatClampNeg) v2 v3 M) (fun M20 => some ((1 : Int32), M20))) else none) else none) else none) else (if x_tag M v0 = 8 + 10 then (x_bd (f_X8_refuse v0 (-7 : Int32) M) (fun r25 M24 => some (r25, M24))) else none)) else (f_X8_row_33 v0 M))) else (if x_tag M v0 = 8 + 10 then (x_bd (f_X8_refuse v0 (-4 : Int32) M) (fun r29 M28 => some (r29, M28))) else none))
set_option maxRecDepth 20000 in
set_option maxHeartbeats 4000000 in
theorem t_X8_row_c1 (l : Launch) {v0 : Nat} {v1 : Int32} {v2 : Int32} {v3 : Int32} {s0 : Int32} {M : XM} {q : Int32 × XM} (H : f_X8_row_c1 v0 v1 v2 v3 s0 M = some q) : AW l m_X8_row 3 0 0 (x_Ri q) 0 0 4 [some (.ref v0), some (.int v1), some (.int v2), some (.int v3)] [(.int s0)] M := by
  unfold f_X8_row_c1 at H
  refine x_if_ne 4 13 dX8_row_4 (by decide) (fun c4 => ?_) (fun c4 => ?_)
  · replace H := x_ifn c4 H
    refine x_iload_n 13 3 dX8_row_13 rfl rfl ?_
    refine x_if_ge 14 24 dX8_row_14 (by decide) (fun c9 => ?_) (fun c9 => ?_)
    · replace H := x_ifp c9 H
      refine x_iload_n 24 2 dX8_row_24 rfl rfl ?_
      refine x_if_lt 25 33 dX8_row_25 (by decide) (fun c10 => ?_) (fun c10 => ?_)
      · replace H := x_ifp c10 H
        exact x_wk (le_s (le_n (le_n (le_n le_0)))) (t_X8_row_33 l H)
      · replace H := x_ifn c10 H
        refine x_iload_n 28 2 dX8_row_28 rfl rfl ?_
        refine x_iconst 29 (3 : Int32) dX8_row_29 (by decide) ?_
        refine x_icmp_le 30 40 dX8_row_30 (by decide) (fun c15 => ?_) (fun c15 => ?_)
        · replace H := x_ifp c15 H
          refine x_iload_n 40 3 dX8_row_40 rfl rfl ?_
          refine x_sipush 41 (160 : Int32) dX8_row_41 (by decide) ?_
          refine x_icmp_le 44 54 dX8_row_44 (by decide) (fun c16 => ?_) (fun c16 => ?_)
          · replace H := x_ifp c16 H
            refine x_aload_n 54 0 dX8_row_54 rfl rfl ?_
            obtain ⟨h17, H⟩ := x_ckp H
            refine x_getf 55 37 8 6 (.ref (x_r M v0 6)) dX8_row_55 lk_363 (by decide) (by decide) rfl (fun _ => rfl) h17 ?_
            refine x_iload_n 58 1 dX8_row_58 rfl rfl ?_
            obtain ⟨h18, H⟩ := x_ckp H
            refine x_aald4 59 dX8_row_59 h18 ?_
            refine x_iload_n 60 2 dX8_row_60 rfl rfl ?_
            refine x_iload_n 61 3 dX8_row_61 rfl rfl ?_
            obtain ⟨h19, H⟩ := x_ckp H
            obtain ⟨M20, e22, H⟩ := x_bv_of H
            refine x_callV 62 95 6 [(.int v2), (.int v3)] [] dX8_row_62 (ct_X6_holdRow l e22) lk_414 lk_415 lk_416 (by decide) h19 lk_93 lk_417 ⟨cn_X6_holdRow, (by decide), by decide⟩ rfl (Nat.le_of_ble_eq_true rfl) (Nat.le_of_ble_eq_true rfl) (Nat.le_of_ble_eq_true rfl) (x_rv ?_)
            refine x_iconst 65 (1 : Int32) dX8_row_65 (by decide) ?_
            cases H
            exact x_iret 66 dX8_row_66 .int rfl rfl (Nat.le_of_ble_eq_true rfl) (Nat.le_of_ble_eq_true rfl) ⟨rfl, rfl⟩
          · replace H := x_ifn c16 H
            refine x_aload_n 47 0 dX8_row_47 rfl rfl ?_
            refine x_bipush 48 (-7 : Int32) dX8_row_48 (by decide) ?_
            obtain ⟨h23, H⟩ := x_ckp H
            obtain ⟨r25, M24, e26, H⟩ := x_bd_of H
            refine x_callV 50 91 8 [(.int (-7 : Int32))] [] dX8_row_50 (ct_X8_refuse l e26) lk_410 lk_412 lk_0 (by decide) h23 lk_85 lk_413 ⟨cn_X8_refuse, (by decide), by decide⟩ rfl (Nat.le_of_ble_eq_true rfl) (Nat.le_of_ble_eq_true rfl) (Nat.le_of_ble_eq_true rfl) (x_ri ?_)
            cases H
            exact x_iret 53 dX8_row_53 .int rfl rfl (Nat.le_of_ble_eq_true rfl) (Nat.le_of_ble_eq_true rfl) ⟨rfl, rfl⟩
        · replace H := x_ifn c15 H
          exact x_wk (le_s (le_n (le_n (le_n le_0)))) (t_X8_row_33 l H)
    · replace H := x_ifn c9 H
      refine x_aload_n 17 0 dX8_row_17 rfl rfl ?_
      refine x_bipush 18 (-4 : Int32) dX8_row_18 (by decide) ?_
      obtain ⟨h27, H⟩ := x_ckp H
      obtain ⟨r29, M28, e30, H⟩ := x_bd_of H
      refine x_callV 20 91 8 [(.int (-4 : Int32))] [] dX8_row_20 (ct_X8_refuse l e30) lk_410 lk_412 lk_0 (by decide) h27 lk_85 lk_413 ⟨cn_X8_refuse, (by decide), by decide⟩ rfl (Nat.le_of_ble_eq_true rfl) (Nat.le_of_ble_eq_true rfl) (Nat.le_of_ble_eq_true rfl) (x_ri ?_)
      cases H
      exact x_iret 23 dX8_row_23 .int rfl rfl (Nat.le_of_ble_eq_true rfl) (Nat.le_of_ble_eq_true rfl) ⟨rfl, rfl⟩
  · replace H := x_ifp c4 H
    refine x_aload_n 7 0 dX8_row_7 rfl rfl ?_
    refine x_iconst 8 (-1 : Int32) dX8_row_8 (by decide) ?_
    obtain ⟨h5, H⟩ := x_ckp H
    obtain ⟨r7, M6, e8, H⟩ := x_bd_of H
    refine x_callV 9 91 8 [(.int (-1 : Int32))] [] dX8_row_9 (ct_X8_refuse l e8) lk_410 lk_412 lk_0 (by decide) h5 lk_85 lk_413 ⟨cn_X8_refuse, (by decide), by decide⟩ rfl (Nat.le_of_ble_eq_true rfl) (Nat.le_of_ble_eq_true rfl) (Nat.le_of_ble_eq_true rfl) (x_ri ?_)
    cases H
    exact x_iret 12 dX8_row_12 .int rfl rfl (Nat.le_of_ble_eq_true rfl) (Nat.le_of_ble_eq_true rfl) ⟨rfl, rfl⟩

def f_X8_row (v0 : Nat) (v1 : Int32) (v2 : Int32) (v3 : Int32) (M : XM) : Option (Int32 × XM) :=
  x_bd (f_X8_isShelf v1 M) (f_X8_row_c1 v0 v1 v2 v3)
set_option maxRecDepth 20000 in
set_option maxHeartbeats 4000000 in
theorem t_X8_row (l : Launch) {v0 : Nat} {v1 : Int32} {v2 : Int32} {v3 : Int32} {M : XM} {q : Int32 × XM} (H : f_X8_row v0 v1 v2 v3 M = some q) : AW l m_X8_row 3 0 0 (x_Ri q) 0 0 0 [some (.ref v0), some (.int v1), some (.int v2), some (.int v3)] [] M := by
  unfold f_X8_row at H
  refine x_iload_n 0 1 dX8_row_0 rfl rfl ?_
  obtain ⟨r2, M1, e3, H⟩ := x_bd_of H
  refine x_callS 1 87 [(.int v1)] [] dX8_row_1 (ct_X8_isShelf l e3) lk_407 lk_408 lk_85 lk_409 ⟨cn_X8_isShelf, (by decide), by decide⟩ rfl (Nat.le_of_ble_eq_true rfl) (Nat.le_of_ble_eq_true rfl) (Nat.le_of_ble_eq_true rfl) (x_ri ?_)
  exact t_X8_row_c1 l H

theorem ct_X8_row (l : Launch) {v0 : Nat} {v1 : Int32} {v2 : Int32} {v3 : Int32} {M : XM} {q : Int32 × XM} (H : f_X8_row v0 v1 v2 v3 M = some q) : Ct l m_X8_row 3 0 0 [(.ref v0), (.int v1), (.int v2), (.int v3)] M (x_Ri q) := x_met l m_X8_row 3 0 0 [(.ref v0), (.int v1), (.int v2), (.int v3)] M (x_Ri q) _ rfl rfl (Nat.le_of_ble_eq_true rfl) (t_X8_row l H)
