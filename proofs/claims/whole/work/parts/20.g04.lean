theorem lk_587 : Cond.code yX6_intAt cX6_intAt 2 (some .int) ∈ x_TB := x_tb (k := 587) (by decide +kernel) rfl
theorem lk_584 : Cond.methodLink RX5 42 yX6_intAt ∈ x_TB := x_tb (k := 584) (by decide +kernel) rfl
theorem lk_586 : Cond.selects RX6 yX6_intAt yX6_intAt ∈ x_TB := x_tb (k := 586) (by decide +kernel) rfl
theorem lk_585 : Cond.instanceMethod yX6_intAt ∈ x_TB := x_tb (k := 585) (by decide +kernel) rfl
abbrev m_X5_read : XU := (yX5_read, cX5_read, 4, (some .int))
theorem cn_X5_read : m_X5_read.1.cls ≠ "java/lang/invoke/MethodHandle" ∧ m_X5_read.1.cls ≠ "java/lang/invoke/VarHandle" ∧ (parseMethodDescriptor m_X5_read.1.desc).map (fun q => q.parameters.length) = some 2 := by decide +kernel
def f_X5_read_c101 (κ67 : Nat → Int32 → XM → Option (Int32 × XM)) (v0 : Nat) (v3 : Int32) (M : XM) : Option (Int32 × XM) :=
  κ67 v0 (v3 + (1 : Int32)) M
set_option maxRecDepth 20000 in
set_option maxHeartbeats 4000000 in
theorem t_X5_read_c101 (l : Launch) {κ67 : Nat → Int32 → XM → Option (Int32 × XM)} {v0 : Nat} {v3 : Int32} {M : XM} {q : Int32 × XM} (hκ67 : ∀ (v0 : Nat) (v3 : Int32) (M : XM), κ67 v0 v3 M = some q → AW l m_X5_read 8 0 0 (x_Ri q) 0 0 67 [some (.ref v0), none, none, some (.int v3)] [] M) (H : f_X5_read_c101 κ67 v0 v3 M = some q) : AW l m_X5_read 8 0 0 (x_Ri q) 0 0 104 [some (.ref v0), none, none, some (.int v3)] [] M := by
  unfold f_X5_read_c101 at H
  refine x_iinc 104 3 (v3 + (1 : Int32)) [some (.ref v0), none, none, some (.int (v3 + (1 : Int32)))] dX5_read_104 rfl (congrArg (fun z : Int32 => v3 + z) (show Int32.ofInt (1) = (1 : Int32) by decide)) rfl (Nat.le_of_ble_eq_true rfl) rfl ?_
  refine x_goto 107 67 dX5_read_107 (by decide) ?_
  exact hκ67 _ _ _ H

def f_X5_read_c97 (κ67 : Nat → Int32 → XM → Option (Int32 × XM)) (v0 : Nat) (v3 : Int32) (M : XM) : Option (Int32 × XM) :=
  if x_tag M v0 = 5 + 10 then (x_bv (f_X5_readItem v0 M) (f_X5_read_c101 κ67 v0 v3)) else none
set_option maxRecDepth 20000 in
set_option maxHeartbeats 4000000 in
theorem t_X5_read_c97 (l : Launch) {κ67 : Nat → Int32 → XM → Option (Int32 × XM)} {v0 : Nat} {v3 : Int32} {M : XM} {q : Int32 × XM} (hκ67 : ∀ (v0 : Nat) (v3 : Int32) (M : XM), κ67 v0 v3 M = some q → AW l m_X5_read 8 0 0 (x_Ri q) 0 0 67 [some (.ref v0), none, none, some (.int v3)] [] M) (H : f_X5_read_c97 κ67 v0 v3 M = some q) : AW l m_X5_read 8 0 0 (x_Ri q) 0 0 100 [some (.ref v0), none, none, some (.int v3)] [] M := by
  unfold f_X5_read_c97 at H
  refine x_aload_n 100 0 dX5_read_100 rfl rfl ?_
  obtain ⟨h32, H⟩ := x_ckp H
  obtain ⟨M33, e35, H⟩ := x_bv_of H
  refine x_callV 101 49 5 [] [] dX5_read_101 (ct_X5_readItem l e35) lk_589 lk_591 lk_5 (by decide) h32 lk_88 lk_592 ⟨cn_X5_readItem, (by decide), by decide⟩ rfl (Nat.le_of_ble_eq_true rfl) (Nat.le_of_ble_eq_true rfl) (Nat.le_of_ble_eq_true rfl) (x_rv ?_)
  exact t_X5_read_c101 l hκ67 H

def bd_X5_read_67 (κ67 : Nat → Int32 → XM → Option (Int32 × XM)) (v0 : Nat) (v3 : Int32) (M : XM) : Option (Int32 × XM) :=
  if x_tag M v0 = 5 + 10 then (if (x_i M v0 3) < v3 then (some (v3, M)) else (if (x_i M v0 0) = (-1 : Int32) then (if (x_i M v0 3) ≤ (x_i M v0 4) then (some (v3, M)) else (x_bv (f_X5_expect v0 (59 : Int32) M) (f_X5_read_c97 κ67 v0 v3))) else (some (v3, M)))) else none
set_option maxRecDepth 20000 in
set_option maxHeartbeats 4000000 in
theorem tb_X5_read_67 (l : Launch) {κ67 : Nat → Int32 → XM → Option (Int32 × XM)} {v0 : Nat} {v3 : Int32} {M : XM} {q : Int32 × XM} (hκ67 : ∀ (v0 : Nat) (v3 : Int32) (M : XM), κ67 v0 v3 M = some q → AW l m_X5_read 8 0 0 (x_Ri q) 0 0 67 [some (.ref v0), none, none, some (.int v3)] [] M) (H : bd_X5_read_67 κ67 v0 v3 M = some q) : AW l m_X5_read 8 0 0 (x_Ri q) 0 0 67 [some (.ref v0), none, none, some (.int v3)] [] M := by
  unfold bd_X5_read_67 at H
  refine x_iload_n 67 3 dX5_read_67 rfl rfl ?_
  refine x_aload_n 68 0 dX5_read_68 rfl rfl ?_
  obtain ⟨h25, H⟩ := x_ckp H
  refine x_getf 69 41 5 3 (.int (x_i M v0 3)) dX5_read_69 lk_219 (by decide) (by decide) rfl (fun _ => rfl) h25 ?_
  refine x_icmp_gt 72 110 dX5_read_72 (by decide) (fun c26 => ?_) (fun c26 => ?_)
  · replace H := x_ifp c26 H
    refine x_iload_n 110 3 dX5_read_110 rfl rfl ?_
    cases H
    exact x_iret 111 dX5_read_111 .int rfl rfl (Nat.le_of_ble_eq_true rfl) (Nat.le_of_ble_eq_true rfl) ⟨rfl, rfl⟩
  · replace H := x_ifn c26 H
    refine x_aload_n 75 0 dX5_read_75 rfl rfl ?_
    refine x_getf 76 9 5 0 (.int (x_i M v0 0)) dX5_read_76 lk_214 (by decide) (by decide) rfl (fun _ => rfl) h25 ?_
    refine x_iconst 79 (-1 : Int32) dX5_read_79 (by decide) ?_
    refine x_icmp_ne 80 110 dX5_read_80 (by decide) (fun c27 => ?_) (fun c27 => ?_)
    · replace H := x_ifn c27 H
      refine x_iload_n 110 3 dX5_read_110 rfl rfl ?_
      cases H
      exact x_iret 111 dX5_read_111 .int rfl rfl (Nat.le_of_ble_eq_true rfl) (Nat.le_of_ble_eq_true rfl) ⟨rfl, rfl⟩
    · replace H := x_ifp c27 H
      refine x_aload_n 83 0 dX5_read_83 rfl rfl ?_
      refine x_getf 84 46 5 4 (.int (x_i M v0 4)) dX5_read_84 lk_220 (by decide) (by decide) rfl (fun _ => rfl) h25 ?_
      refine x_aload_n 87 0 dX5_read_87 rfl rfl ?_
      refine x_getf 88 41 5 3 (.int (x_i M v0 3)) dX5_read_88 lk_219 (by decide) (by decide) rfl (fun _ => rfl) h25 ?_
      refine x_icmp_ge 91 110 dX5_read_91 (by decide) (fun c28 => ?_) (fun c28 => ?_)
      · replace H := x_ifp c28 H
        refine x_iload_n 110 3 dX5_read_110 rfl rfl ?_
        cases H
        exact x_iret 111 dX5_read_111 .int rfl rfl (Nat.le_of_ble_eq_true rfl) (Nat.le_of_ble_eq_true rfl) ⟨rfl, rfl⟩
      · replace H := x_ifn c28 H
        refine x_aload_n 94 0 dX5_read_94 rfl rfl ?_
        refine x_bipush 95 (59 : Int32) dX5_read_95 (by decide) ?_
        obtain ⟨M29, e31, H⟩ := x_bv_of H
        refine x_callV 97 52 5 [(.int (59 : Int32))] [] dX5_read_97 (ct_X5_expect l e31) lk_671 lk_673 lk_9 (by decide) h25 lk_88 lk_674 ⟨cn_X5_expect, (by decide), by decide⟩ rfl (Nat.le_of_ble_eq_true rfl) (Nat.le_of_ble_eq_true rfl) (Nat.le_of_ble_eq_true rfl) (x_rv ?_)
        exact t_X5_read_c97 l hκ67 H

def lp_X5_read_67 (n : Nat) : Nat → Int32 → XM → Option (Int32 × XM) := x_rec (fun _ _ _ => none) (bd_X5_read_67) n
theorem t_X5_read_67 (l : Launch) {q : Int32 × XM} : ∀ (n : Nat) (v0 : Nat) (v3 : Int32) (M : XM), lp_X5_read_67 n v0 v3 M = some q → AW l m_X5_read 8 0 0 (x_Ri q) 0 0 67 [some (.ref v0), none, none, some (.int v3)] [] M := by
  intro n
  induction n with
  | zero => intro v0 v3 M H; cases H
  | succ n ih => intro v0 v3 M H; exact tb_X5_read_67 l ih H
def f_X5_read_c62 (v0 : Nat) (M : XM) : Option (Int32 × XM) :=
  lp_X5_read_67 x_fuel v0 (1 : Int32) M
set_option maxRecDepth 20000 in
set_option maxHeartbeats 4000000 in
theorem t_X5_read_c62 (l : Launch) {v0 : Nat} {M : XM} {q : Int32 × XM} (H : f_X5_read_c62 v0 M = some q) : AW l m_X5_read 8 0 0 (x_Ri q) 0 0 65 [some (.ref v0), none, none, none] [] M := by
  unfold f_X5_read_c62 at H
  refine x_iconst 65 (1 : Int32) dX5_read_65 (by decide) ?_
  refine x_istore_n 66 3 [some (.ref v0), none, none, some (.int (1 : Int32))] dX5_read_66 rfl rfl (Nat.le_of_ble_eq_true rfl) rfl ?_
  exact t_X5_read_67 l _ _ _ _ H

def f_X5_read_c41 (κ26 : Nat → Nat → Int32 → XM → Option (Int32 × XM)) (v0 : Nat) (v1 : Nat) (v3 : Int32) (s1 : Int32) (s2 : Nat) (s0 : Int32) (M : XM) : Option (Int32 × XM) :=
  if x_at M s2 1 s1 = true then (x_lt (x_wi M s2 s1.toNatClampNeg s0) (fun M41 => κ26 v0 v1 (v3 + (1 : Int32)) M41)) else none
set_option maxRecDepth 20000 in
set_option maxHeartbeats 4000000 in
theorem t_X5_read_c41 (l : Launch) {κ26 : Nat → Nat → Int32 → XM → Option (Int32 × XM)} {v0 : Nat} {v1 : Nat} {v3 : Int32} {s1 : Int32} {s2 : Nat} {s0 : Int32} {M : XM} {q : Int32 × XM} (hκ26 : ∀ (v0 : Nat) (v1 : Nat) (v3 : Int32) (M : XM), κ26 v0 v1 v3 M = some q → AW l m_X5_read 8 0 0 (x_Ri q) 0 0 26 [some (.ref v0), some (.ref v1), none, some (.int v3)] [] M) (H : f_X5_read_c41 κ26 v0 v1 v3 s1 s2 s0 M = some q) : AW l m_X5_read 8 0 0 (x_Ri q) 0 0 44 [some (.ref v0), some (.ref v1), none, some (.int v3)] [(.int s0), (.int s1), (.ref s2)] M := by
  unfold f_X5_read_c41 at H
  obtain ⟨h40, H⟩ := x_ckp H
  obtain ⟨M41, w42, H⟩ := x_lt_of H
  have h43 : x_at M41 s2 1 s1 = true := by rw [w42]; exact h40
  have h44 : x_tag M41 s2 = 1 := by rw [w42]; exact (x_at_1 h40)
  refine x_iast' 44 dX5_read_44 h40 w42 ?_
  refine x_iinc 45 3 (v3 + (1 : Int32)) [some (.ref v0), some (.ref v1), none, some (.int (v3 + (1 : Int32)))] dX5_read_45 rfl (congrArg (fun z : Int32 => v3 + z) (show Int32.ofInt (1) = (1 : Int32) by decide)) rfl (Nat.le_of_ble_eq_true rfl) rfl ?_
  refine x_goto 48 26 dX5_read_48 (by decide) ?_
  exact hκ26 _ _ _ _ H

def bd_X5_read_26 (κ26 : Nat → Nat → Int32 → XM → Option (Int32 × XM)) (v0 : Nat) (v1 : Nat) (v3 : Int32) (M : XM) : Option (Int32 × XM) :=
  if x_tag M v0 = 5 + 10 then (if (x_i M v0 3) ≤ v3 then (x_lt (x_wi M v0 4 (0 : Int32)) (fun M16 => x_lt (x_wi M16 v0 0 (-1 : Int32)) (fun M19 => x_bv (f_X5_readItem v0 M19) (f_X5_read_c62 v0)))) else (if x_tag M v1 = 6 + 10 then (x_bd (f_X6_intAt v1 v3 M) (f_X5_read_c41 κ26 v0 v1 v3 v3 (x_r M v0 2))) else none)) else none
set_option maxRecDepth 20000 in
set_option maxHeartbeats 4000000 in
theorem tb_X5_read_26 (l : Launch) {κ26 : Nat → Nat → Int32 → XM → Option (Int32 × XM)} {v0 : Nat} {v1 : Nat} {v3 : Int32} {M : XM} {q : Int32 × XM} (hκ26 : ∀ (v0 : Nat) (v1 : Nat) (v3 : Int32) (M : XM), κ26 v0 v1 v3 M = some q → AW l m_X5_read 8 0 0 (x_Ri q) 0 0 26 [some (.ref v0), some (.ref v1), none, some (.int v3)] [] M) (H : bd_X5_read_26 κ26 v0 v1 v3 M = some q) : AW l m_X5_read 8 0 0 (x_Ri q) 0 0 26 [some (.ref v0), some (.ref v1), none, some (.int v3)] [] M := by
  unfold bd_X5_read_26 at H
  refine x_iload_n 26 3 dX5_read_26 rfl rfl ?_
  refine x_aload_n 27 0 dX5_read_27 rfl rfl ?_
  obtain ⟨h14, H⟩ := x_ckp H
  refine x_getf 28 41 5 3 (.int (x_i M v0 3)) dX5_read_28 lk_219 (by decide) (by decide) rfl (fun _ => rfl) h14 ?_
  refine x_icmp_ge 31 51 dX5_read_31 (by decide) (fun c15 => ?_) (fun c15 => ?_)
  · replace H := x_ifp c15 H
    refine x_aload_n 51 0 dX5_read_51 rfl rfl ?_
    refine x_iconst 52 (0 : Int32) dX5_read_52 (by decide) ?_
    obtain ⟨M16, w17, H⟩ := x_lt_of H
    have h18 : x_tag M16 v0 = 5 + 10 := by rw [w17]; exact h14
    refine x_putI' 53 46 5 4 dX5_read_53 lk_220 (by decide) (by decide) rfl (Or.inl rfl) (Or.inl rfl) h14 w17 ?_
    refine x_aload_n 56 0 dX5_read_56 rfl rfl ?_
    refine x_iconst 57 (-1 : Int32) dX5_read_57 (by decide) ?_
    obtain ⟨M19, w20, H⟩ := x_lt_of H
    have h21 : x_tag M19 v0 = 5 + 10 := by rw [w20]; exact h18
    refine x_putI' 58 9 5 0 dX5_read_58 lk_214 (by decide) (by decide) rfl (Or.inl rfl) (Or.inl rfl) h18 w20 ?_
    refine x_aload_n 61 0 dX5_read_61 rfl rfl ?_
    obtain ⟨M22, e24, H⟩ := x_bv_of H
    refine x_callV 62 49 5 [] [] dX5_read_62 (ct_X5_readItem l e24) lk_589 lk_591 lk_5 (by decide) h21 lk_88 lk_592 ⟨cn_X5_readItem, (by decide), by decide⟩ rfl (Nat.le_of_ble_eq_true rfl) (Nat.le_of_ble_eq_true rfl) (Nat.le_of_ble_eq_true rfl) (x_rv ?_)
    exact x_wk (le_s (le_n (le_s (le_n le_0)))) (t_X5_read_c62 l H)
  · replace H := x_ifn c15 H
    refine x_aload_n 34 0 dX5_read_34 rfl rfl ?_
    refine x_getf 35 22 5 2 (.ref (x_r M v0 2)) dX5_read_35 lk_218 (by decide) (by decide) rfl (fun _ => rfl) h14 ?_
    refine x_iload_n 38 3 dX5_read_38 rfl rfl ?_
    refine x_aload_n 39 1 dX5_read_39 rfl rfl ?_
    refine x_iload_n 40 3 dX5_read_40 rfl rfl ?_
    obtain ⟨h36, H⟩ := x_ckp H
    obtain ⟨r38, M37, e39, H⟩ := x_bd_of H
    refine x_callV 41 42 6 [(.int v3)] [(.int v3), (.ref (x_r M v0 2))] dX5_read_41 (ct_X6_intAt l e39) lk_584 lk_585 lk_586 (by decide) h36 lk_93 lk_587 ⟨cn_X6_intAt, (by decide), by decide⟩ rfl (Nat.le_of_ble_eq_true rfl) (Nat.le_of_ble_eq_true rfl) (Nat.le_of_ble_eq_true rfl) (x_ri ?_)
    exact t_X5_read_c41 l hκ26 H

def lp_X5_read_26 (n : Nat) : Nat → Nat → Int32 → XM → Option (Int32 × XM) := x_rec (fun _ _ _ _ => none) (bd_X5_read_26) n
theorem t_X5_read_26 (l : Launch) {q : Int32 × XM} : ∀ (n : Nat) (v0 : Nat) (v1 : Nat) (v3 : Int32) (M : XM), lp_X5_read_26 n v0 v1 v3 M = some q → AW l m_X5_read 8 0 0 (x_Ri q) 0 0 26 [some (.ref v0), some (.ref v1), none, some (.int v3)] [] M := by
  intro n
  induction n with
  | zero => intro v0 v1 v3 M H; cases H
  | succ n ih => intro v0 v1 v3 M H; exact tb_X5_read_26 l ih H
def f_X5_read_c5 (v0 : Nat) (v1 : Nat) (M : XM) : Option (Int32 × XM) :=
  if x_tag M v1 = 6 + 10 then (if x_tag M v0 = 5 + 10 then (if x_tag M (x_r M v0 2) = 1 then (x_lt (x_wi M v0 3 (if (Int32.ofNat (x_len M (x_r M v0 2))) < (x_i M v1 2) then (Int32.ofNat (x_len M (x_r M v0 2))) else (x_i M v1 2))) (fun M9 => lp_X5_read_26 x_fuel v0 v1 (0 : Int32) M9)) else none) else none) else none
set_option maxRecDepth 20000 in
set_option maxHeartbeats 4000000 in
theorem t_X5_read_c5 (l : Launch) {v0 : Nat} {v1 : Nat} {M : XM} {q : Int32 × XM} (H : f_X5_read_c5 v0 v1 M = some q) : AW l m_X5_read 8 0 0 (x_Ri q) 0 0 8 [some (.ref v0), some (.ref v1), none, none] [] M := by
  unfold f_X5_read_c5 at H
  refine x_aload_n 8 0 dX5_read_8 rfl rfl ?_
  refine x_aload_n 9 1 dX5_read_9 rfl rfl ?_
  obtain ⟨h6, H⟩ := x_ckp H
  refine x_getf 10 30 6 2 (.int (x_i M v1 2)) dX5_read_10 lk_346 (by decide) (by decide) rfl (fun _ => rfl) h6 ?_
  refine x_aload_n 13 0 dX5_read_13 rfl rfl ?_
  obtain ⟨h7, H⟩ := x_ckp H
  refine x_getf 14 22 5 2 (.ref (x_r M v0 2)) dX5_read_14 lk_218 (by decide) (by decide) rfl (fun _ => rfl) h7 ?_
  obtain ⟨h8, H⟩ := x_ckp H
  refine x_alen 17 1 dX5_read_17 h8 (by decide) ?_
  refine x_min 18 35 dX5_read_18 lk_583 lk_561 lk_97 lk_562 rfl (Nat.le_of_ble_eq_true rfl) (by decide) (Nat.le_of_ble_eq_true rfl) (Nat.le_of_ble_eq_true rfl) ?_
  obtain ⟨M9, w10, H⟩ := x_lt_of H
  have h11 : x_tag M9 v1 = 6 + 10 := by rw [w10]; exact h6
  have h12 : x_tag M9 v0 = 5 + 10 := by rw [w10]; exact h7
  have h13 : x_tag M9 (x_r M v0 2) = 1 := by rw [w10]; exact h8
  refine x_putI' 21 41 5 3 dX5_read_21 lk_219 (by decide) (by decide) rfl (Or.inl rfl) (Or.inl rfl) h7 w10 ?_
  refine x_iconst 24 (0 : Int32) dX5_read_24 (by decide) ?_
  refine x_istore_n 25 3 [some (.ref v0), some (.ref v1), none, some (.int (0 : Int32))] dX5_read_25 rfl rfl (Nat.le_of_ble_eq_true rfl) rfl ?_
  exact t_X5_read_26 l _ _ _ _ _ H

def f_X5_read (v0 : Nat) (v1 : Nat) (v2 : Nat) (M : XM) : Option (Int32 × XM) :=
  if x_tag M v0 = 5 + 10 then (if x_tag M (x_r M v0 1) = 4 + 10 then (x_bv (f_X4_becomeLike (x_r M v0 1) v2 M) (f_X5_read_c5 v0 v1)) else none) else none
set_option maxRecDepth 20000 in
set_option maxHeartbeats 4000000 in
theorem t_X5_read (l : Launch) {v0 : Nat} {v1 : Nat} {v2 : Nat} {M : XM} {q : Int32 × XM} (H : f_X5_read v0 v1 v2 M = some q) : AW l m_X5_read 8 0 0 (x_Ri q) 0 0 0 [some (.ref v0), some (.ref v1), some (.ref v2), none] [] M := by
  unfold f_X5_read at H
  refine x_aload_n 0 0 dX5_read_0 rfl rfl ?_
  obtain ⟨h1, H⟩ := x_ckp H
  refine x_getf 1 18 5 1 (.ref (x_r M v0 1)) dX5_read_1 lk_216 (by decide) (by decide) rfl (fun _ => rfl) h1 ?_
  refine x_aload_n 4 2 dX5_read_4 rfl rfl ?_
  obtain ⟨h2, H⟩ := x_ckp H
  obtain ⟨M3, e5, H⟩ := x_bv_of H
  refine x_callV 5 26 4 [(.ref v2)] [] dX5_read_5 (ct_X4_becomeLike l e5) lk_575 lk_576 lk_577 (by decide) h2 lk_86 lk_578 ⟨cn_X4_becomeLike, (by decide), by decide⟩ rfl (Nat.le_of_ble_eq_true rfl) (Nat.le_of_ble_eq_true rfl) (Nat.le_of_ble_eq_true rfl) (x_rv ?_)
  exact x_wk (le_s (le_s (le_n (le_s le_0)))) (t_X5_read_c5 l H)

theorem ct_X5_read (l : Launch) {v0 : Nat} {v1 : Nat} {v2 : Nat} {M : XM} {q : Int32 × XM} (H : f_X5_read v0 v1 v2 M = some q) : Ct l m_X5_read 8 0 0 [(.ref v0), (.ref v1), (.ref v2)] M (x_Ri q) := x_met l m_X5_read 8 0 0 [(.ref v0), (.ref v1), (.ref v2)] M (x_Ri q) _ rfl rfl (Nat.le_of_ble_eq_true rfl) (t_X5_read l H)
theorem lk_341 : Cond.methodLink RX6 3 Lib.objectInit ∈ x_TB := x_tb (k := 341) (by decide +kernel) rfl
theorem lk_342 : Cond.fieldLink RX6 9 RX6 "counter" "I" ∈ x_TB := x_tb (k := 342) (by decide +kernel) rfl
theorem lk_344 : Cond.fieldLink RX6 15 RX6 "sort" "I" ∈ x_TB := x_tb (k := 344) (by decide +kernel) rfl
theorem lk_359 : Cond.arrayClass (newarray.typeOf .long) ∈ x_TB := x_tb (k := 359) (by decide +kernel) rfl
abbrev m_X6_init : XU := (yX6_init, cX6_init, 1, none)
theorem cn_X6_init : m_X6_init.1.cls ≠ "java/lang/invoke/MethodHandle" ∧ m_X6_init.1.cls ≠ "java/lang/invoke/VarHandle" ∧ (parseMethodDescriptor m_X6_init.1.desc).map (fun q => q.parameters.length) = some 0 := by decide +kernel
def f_X6_init (v0 : Nat) (M : XM) : Option XM :=
  if x_tag M v0 = 6 + 10 then (x_lt (x_wi M v0 0 (-1 : Int32)) (fun M2 => x_lt (x_wi M2 v0 1 (-1 : Int32)) (fun M5 => x_al M5 2 160 (fun a9 M8 => if x_tag M8 v0 = 6 + 10 then (x_lt (x_wr M8 v0 3 a9) (fun M14 => some M14)) else none)))) else none
set_option maxRecDepth 20000 in
set_option maxHeartbeats 4000000 in
theorem t_X6_init (l : Launch) {v0 : Nat} {M : XM} {q : XM} (H : f_X6_init v0 M = some q) : AW l m_X6_init 1 1 160 (x_Rv q) 0 0 0 [some (.ref v0)] [] M := by
  unfold f_X6_init at H
  refine x_aload_n 0 0 dX6_init_0 rfl rfl ?_
  obtain ⟨h1, H⟩ := x_ckp H
  refine x_objInit 1 3 dX6_init_1 lk_341 lk_108 lk_109 h1 rfl (Nat.le_of_ble_eq_true rfl) (by decide) ?_
  refine x_aload_n 4 0 dX6_init_4 rfl rfl ?_
  refine x_iconst 5 (-1 : Int32) dX6_init_5 (by decide) ?_
  obtain ⟨M2, w3, H⟩ := x_lt_of H
  have h4 : x_tag M2 v0 = 6 + 10 := by rw [w3]; exact h1
  refine x_putI' 6 9 6 0 dX6_init_6 lk_342 (by decide) (by decide) rfl (Or.inl rfl) (Or.inl rfl) h1 w3 ?_
  refine x_aload_n 9 0 dX6_init_9 rfl rfl ?_
  refine x_iconst 10 (-1 : Int32) dX6_init_10 (by decide) ?_
  obtain ⟨M5, w6, H⟩ := x_lt_of H
  have h7 : x_tag M5 v0 = 6 + 10 := by rw [w6]; exact h4
  refine x_putI' 11 15 6 1 dX6_init_11 lk_344 (by decide) (by decide) rfl (Or.inl rfl) (Or.inl rfl) h4 w6 ?_
  refine x_aload_n 14 0 dX6_init_14 rfl rfl ?_
  refine x_sipush 15 (160 : Int32) dX6_init_15 (by decide) ?_
  obtain ⟨a9, M8, w10, w11, H⟩ := x_al_of H
  refine x_newL' 18 160 dX6_init_18 lk_359 (by decide) (by decide) (by decide) (Nat.le_of_ble_eq_true rfl) (Nat.le_of_ble_eq_true rfl) w10 w11 ?_
  have h12 : x_tag M8 a9 = 2 := x_al_tag w10 w11
  change AW _ _ _ _ _ _ 1 160 _ _ _ _
  obtain ⟨h13, H⟩ := x_ckp H
  obtain ⟨M14, w15, H⟩ := x_lt_of H
  have h16 : x_tag M14 a9 = 2 := by rw [w15]; exact h12
  have h17 : x_tag M14 v0 = 6 + 10 := by rw [w15]; exact h13
  refine x_putR' 20 18 6 3 dX6_init_20 lk_349 (by decide) (by decide) rfl (Or.inr ⟨_, rfl⟩) (Or.inr ⟨rfl, rfl⟩) h13 w15 ?_
  cases H
  exact x_vret 23 dX6_init_23 rfl (Nat.le_of_ble_eq_true rfl) (Nat.le_of_ble_eq_true rfl) ⟨rfl, rfl⟩

theorem ct_X6_init (l : Launch) {v0 : Nat} {M : XM} {q : XM} (H : f_X6_init v0 M = some q) : Ct l m_X6_init 1 1 160 [(.ref v0)] M (x_Rv q) := x_met l m_X6_init 1 1 160 [(.ref v0)] M (x_Rv q) _ rfl rfl (Nat.le_of_ble_eq_true rfl) (t_X6_init l H)
abbrev m_X6_hasRow : XU := (yX6_hasRow, cX6_hasRow, 1, (some .boolean))
theorem cn_X6_hasRow : m_X6_hasRow.1.cls ≠ "java/lang/invoke/MethodHandle" ∧ m_X6_hasRow.1.cls ≠ "java/lang/invoke/VarHandle" ∧ (parseMethodDescriptor m_X6_hasRow.1.desc).map (fun q => q.parameters.length) = some 0 := by decide +kernel
def f_X6_hasRow (v0 : Nat) (M : XM) : Option (Int32 × XM) :=
  if x_tag M v0 = 6 + 10 then (if (x_i M v0 1) = (-1 : Int32) then (some ((0 : Int32), M)) else (some ((1 : Int32), M))) else none
set_option maxRecDepth 20000 in
set_option maxHeartbeats 4000000 in
theorem t_X6_hasRow (l : Launch) {v0 : Nat} {M : XM} {q : Int32 × XM} (H : f_X6_hasRow v0 M = some q) : AW l m_X6_hasRow 1 0 0 (x_Ri q) 0 0 0 [some (.ref v0)] [] M := by
  unfold f_X6_hasRow at H
  refine x_aload_n 0 0 dX6_hasRow_0 rfl rfl ?_
  obtain ⟨h1, H⟩ := x_ckp H
  refine x_getf 1 15 6 1 (.int (x_i M v0 1)) dX6_hasRow_1 lk_344 (by decide) (by decide) rfl (fun _ => rfl) h1 ?_
  refine x_iconst 4 (-1 : Int32) dX6_hasRow_4 (by decide) ?_
  refine x_icmp_eq 5 12 dX6_hasRow_5 (by decide) (fun c2 => ?_) (fun c2 => ?_)
  · replace H := x_ifp c2 H
    refine x_iconst 12 (0 : Int32) dX6_hasRow_12 (by decide) ?_
    cases H
    exact x_iret 13 dX6_hasRow_13 .boolean rfl rfl (Nat.le_of_ble_eq_true rfl) (Nat.le_of_ble_eq_true rfl) ⟨rfl, rfl⟩
  · replace H := x_ifn c2 H
    refine x_iconst 8 (1 : Int32) dX6_hasRow_8 (by decide) ?_
    refine x_goto 9 13 dX6_hasRow_9 (by decide) ?_
    cases H
    exact x_iret 13 dX6_hasRow_13 .boolean rfl rfl (Nat.le_of_ble_eq_true rfl) (Nat.le_of_ble_eq_true rfl) ⟨rfl, rfl⟩

theorem ct_X6_hasRow (l : Launch) {v0 : Nat} {M : XM} {q : Int32 × XM} (H : f_X6_hasRow v0 M = some q) : Ct l m_X6_hasRow 1 0 0 [(.ref v0)] M (x_Ri q) := x_met l m_X6_hasRow 1 0 0 [(.ref v0)] M (x_Ri q) _ rfl rfl (Nat.le_of_ble_eq_true rfl) (t_X6_hasRow l H)
abbrev m_X6_hasCounter : XU := (yX6_hasCounter, cX6_hasCounter, 1, (some .boolean))
theorem cn_X6_hasCounter : m_X6_hasCounter.1.cls ≠ "java/lang/invoke/MethodHandle" ∧ m_X6_hasCounter.1.cls ≠ "java/lang/invoke/VarHandle" ∧ (parseMethodDescriptor m_X6_hasCounter.1.desc).map (fun q => q.parameters.length) = some 0 := by decide +kernel
def f_X6_hasCounter (v0 : Nat) (M : XM) : Option (Int32 × XM) :=
  if x_tag M v0 = 6 + 10 then (if (x_i M v0 0) = (-1 : Int32) then (some ((0 : Int32), M)) else (some ((1 : Int32), M))) else none
set_option maxRecDepth 20000 in
set_option maxHeartbeats 4000000 in
theorem t_X6_hasCounter (l : Launch) {v0 : Nat} {M : XM} {q : Int32 × XM} (H : f_X6_hasCounter v0 M = some q) : AW l m_X6_hasCounter 1 0 0 (x_Ri q) 0 0 0 [some (.ref v0)] [] M := by
  unfold f_X6_hasCounter at H
  refine x_aload_n 0 0 dX6_hasCounter_0 rfl rfl ?_
  obtain ⟨h1, H⟩ := x_ckp H
  refine x_getf 1 9 6 0 (.int (x_i M v0 0)) dX6_hasCounter_1 lk_342 (by decide) (by decide) rfl (fun _ => rfl) h1 ?_
  refine x_iconst 4 (-1 : Int32) dX6_hasCounter_4 (by decide) ?_
  refine x_icmp_eq 5 12 dX6_hasCounter_5 (by decide) (fun c2 => ?_) (fun c2 => ?_)
  · replace H := x_ifp c2 H
    refine x_iconst 12 (0 : Int32) dX6_hasCounter_12 (by decide) ?_
    cases H
    exact x_iret 13 dX6_hasCounter_13 .boolean rfl rfl (Nat.le_of_ble_eq_true rfl) (Nat.le_of_ble_eq_true rfl) ⟨rfl, rfl⟩
  · replace H := x_ifn c2 H
    refine x_iconst 8 (1 : Int32) dX6_hasCounter_8 (by decide) ?_
    refine x_goto 9 13 dX6_hasCounter_9 (by decide) ?_
    cases H
    exact x_iret 13 dX6_hasCounter_13 .boolean rfl rfl (Nat.le_of_ble_eq_true rfl) (Nat.le_of_ble_eq_true rfl) ⟨rfl, rfl⟩

theorem ct_X6_hasCounter (l : Launch) {v0 : Nat} {M : XM} {q : Int32 × XM} (H : f_X6_hasCounter v0 M = some q) : Ct l m_X6_hasCounter 1 0 0 [(.ref v0)] M (x_Ri q) := x_met l m_X6_hasCounter 1 0 0 [(.ref v0)] M (x_Ri q) _ rfl rfl (Nat.le_of_ble_eq_true rfl) (t_X6_hasCounter l H)
theorem lk_440 : Cond.code yX6_hasRow cX6_hasRow 1 (some .boolean) ∈ x_TB := x_tb (k := 440) (by decide +kernel) rfl
theorem lk_494 : Cond.methodLink RX6 22 yX6_hasRow ∈ x_TB := x_tb (k := 494) (by decide +kernel) rfl
theorem lk_439 : Cond.selects RX6 yX6_hasRow yX6_hasRow ∈ x_TB := x_tb (k := 439) (by decide +kernel) rfl
theorem lk_438 : Cond.instanceMethod yX6_hasRow ∈ x_TB := x_tb (k := 438) (by decide +kernel) rfl
abbrev m_X6_content : XU := (yX6_content, cX6_content, 1, (some .int))
theorem cn_X6_content : m_X6_content.1.cls ≠ "java/lang/invoke/MethodHandle" ∧ m_X6_content.1.cls ≠ "java/lang/invoke/VarHandle" ∧ (parseMethodDescriptor m_X6_content.1.desc).map (fun q => q.parameters.length) = some 0 := by decide +kernel
def f_X6_content_c1 (v0 : Nat) (s0 : Int32) (M : XM) : Option (Int32 × XM) :=
  if s0 = 0 then (if x_tag M v0 = 6 + 10 then (some ((x_i M v0 0), M)) else none) else (if x_tag M v0 = 6 + 10 then (some (((100 : Int32) + (x_i M v0 1)), M)) else none)
set_option maxRecDepth 20000 in
set_option maxHeartbeats 4000000 in
theorem t_X6_content_c1 (l : Launch) {v0 : Nat} {s0 : Int32} {M : XM} {q : Int32 × XM} (H : f_X6_content_c1 v0 s0 M = some q) : AW l m_X6_content 2 0 0 (x_Ri q) 0 0 4 [some (.ref v0)] [(.int s0)] M := by
  unfold f_X6_content_c1 at H
  refine x_if_eq 4 17 dX6_content_4 (by decide) (fun c5 => ?_) (fun c5 => ?_)
  · replace H := x_ifp c5 H
    refine x_aload_n 17 0 dX6_content_17 rfl rfl ?_
    obtain ⟨h6, H⟩ := x_ckp H
    refine x_getf 18 9 6 0 (.int (x_i M v0 0)) dX6_content_18 lk_342 (by decide) (by decide) rfl (fun _ => rfl) h6 ?_
    cases H
    exact x_iret 21 dX6_content_21 .int rfl rfl (Nat.le_of_ble_eq_true rfl) (Nat.le_of_ble_eq_true rfl) ⟨rfl, rfl⟩
  · replace H := x_ifn c5 H
    refine x_bipush 7 (100 : Int32) dX6_content_7 (by decide) ?_
    refine x_aload_n 9 0 dX6_content_9 rfl rfl ?_
    obtain ⟨h7, H⟩ := x_ckp H
    refine x_getf 10 15 6 1 (.int (x_i M v0 1)) dX6_content_10 lk_344 (by decide) (by decide) rfl (fun _ => rfl) h7 ?_
    refine x_iadd 13 dX6_content_13 ?_
    refine x_goto 14 21 dX6_content_14 (by decide) ?_
    cases H
    exact x_iret 21 dX6_content_21 .int rfl rfl (Nat.le_of_ble_eq_true rfl) (Nat.le_of_ble_eq_true rfl) ⟨rfl, rfl⟩

def f_X6_content (v0 : Nat) (M : XM) : Option (Int32 × XM) :=
  if x_tag M v0 = 6 + 10 then (x_bd (f_X6_hasRow v0 M) (f_X6_content_c1 v0)) else none
set_option maxRecDepth 20000 in
set_option maxHeartbeats 4000000 in
theorem t_X6_content (l : Launch) {v0 : Nat} {M : XM} {q : Int32 × XM} (H : f_X6_content v0 M = some q) : AW l m_X6_content 2 0 0 (x_Ri q) 0 0 0 [some (.ref v0)] [] M := by
  unfold f_X6_content at H
  refine x_aload_n 0 0 dX6_content_0 rfl rfl ?_
  obtain ⟨h1, H⟩ := x_ckp H
  obtain ⟨r3, M2, e4, H⟩ := x_bd_of H
  refine x_callV 1 22 6 [] [] dX6_content_1 (ct_X6_hasRow l e4) lk_494 lk_438 lk_439 (by decide) h1 lk_93 lk_440 ⟨cn_X6_hasRow, (by decide), by decide⟩ rfl (Nat.le_of_ble_eq_true rfl) (Nat.le_of_ble_eq_true rfl) (Nat.le_of_ble_eq_true rfl) (x_ri ?_)
  exact t_X6_content_c1 l H

theorem ct_X6_content (l : Launch) {v0 : Nat} {M : XM} {q : Int32 × XM} (H : f_X6_content v0 M = some q) : Ct l m_X6_content 2 0 0 [(.ref v0)] M (x_Ri q) := x_met l m_X6_content 2 0 0 [(.ref v0)] M (x_Ri q) _ rfl rfl (Nat.le_of_ble_eq_true rfl) (t_X6_content l H)
abbrev m_J7_fill_d0a16 : XU := (yJ7_fill_d0a16, cJ7_fill_d0a16, 5, none)
theorem cn_J7_fill_d0a16 : m_J7_fill_d0a16.1.cls ≠ "java/lang/invoke/MethodHandle" ∧ m_J7_fill_d0a16.1.cls ≠ "java/lang/invoke/VarHandle" ∧ (parseMethodDescriptor m_J7_fill_d0a16.1.desc).map (fun q => q.parameters.length) = some 2 := by decide +kernel
def bd_J7_fill_d0a16_6 (κ6 : Nat → Int64 → Int32 → Int32 → XM → Option XM) (v0 : Nat) (v1 : Int64) (v3 : Int32) (v4 : Int32) (M : XM) : Option XM :=
  if v4 ≤ v3 then (some M) else (if x_at M v0 2 v3 = true then (x_lt (x_wj M v0 v3.toNatClampNeg v1) (fun M4 => κ6 v0 v1 (v3 + (1 : Int32)) v4 M4)) else none)
set_option maxRecDepth 20000 in
set_option maxHeartbeats 4000000 in
theorem tb_J7_fill_d0a16_6 (l : Launch) {κ6 : Nat → Int64 → Int32 → Int32 → XM → Option XM} {v0 : Nat} {v1 : Int64} {v3 : Int32} {v4 : Int32} {M : XM} {q : XM} (hκ6 : ∀ (v0 : Nat) (v1 : Int64) (v3 : Int32) (v4 : Int32) (M : XM), κ6 v0 v1 v3 v4 M = some q → AW l m_J7_fill_d0a16 1 0 0 (x_Rv q) 0 0 6 [some (.ref v0), some (.long v1), none, some (.int v3), some (.int v4)] [] M) (H : bd_J7_fill_d0a16_6 κ6 v0 v1 v3 v4 M = some q) : AW l m_J7_fill_d0a16 1 0 0 (x_Rv q) 0 0 6 [some (.ref v0), some (.long v1), none, some (.int v3), some (.int v4)] [] M := by
  unfold bd_J7_fill_d0a16_6 at H
  refine x_iload_n 6 3 dJ7_fill_d0a16_6 rfl rfl ?_
  refine x_iload 7 4 dJ7_fill_d0a16_7 rfl ?_
  refine x_icmp_ge 9 22 dJ7_fill_d0a16_9 (by decide) (fun c2 => ?_) (fun c2 => ?_)
  · replace H := x_ifp c2 H
    cases H
    exact x_vret 22 dJ7_fill_d0a16_22 rfl (Nat.le_of_ble_eq_true rfl) (Nat.le_of_ble_eq_true rfl) ⟨rfl, rfl⟩
  · replace H := x_ifn c2 H
    refine x_aload_n 12 0 dJ7_fill_d0a16_12 rfl rfl ?_
    refine x_iload_n 13 3 dJ7_fill_d0a16_13 rfl rfl ?_
    refine x_lload_n 14 1 dJ7_fill_d0a16_14 rfl rfl ?_
    obtain ⟨h3, H⟩ := x_ckp H
    obtain ⟨M4, w5, H⟩ := x_lt_of H
    have h6 : x_at M4 v0 2 v3 = true := by rw [w5]; exact h3
    have h7 : x_tag M4 v0 = 2 := by rw [w5]; exact (x_at_1 h3)
    refine x_last' 15 dJ7_fill_d0a16_15 h3 w5 ?_
    refine x_iinc 16 3 (v3 + (1 : Int32)) [some (.ref v0), some (.long v1), none, some (.int (v3 + (1 : Int32))), some (.int v4)] dJ7_fill_d0a16_16 rfl (congrArg (fun z : Int32 => v3 + z) (show Int32.ofInt (1) = (1 : Int32) by decide)) rfl (Nat.le_of_ble_eq_true rfl) rfl ?_
    refine x_goto 19 6 dJ7_fill_d0a16_19 (by decide) ?_
    exact hκ6 _ _ _ _ _ H

def lp_J7_fill_d0a16_6 (n : Nat) : Nat → Int64 → Int32 → Int32 → XM → Option XM := x_rec (fun _ _ _ _ _ => none) (bd_J7_fill_d0a16_6) n
theorem t_J7_fill_d0a16_6 (l : Launch) {q : XM} : ∀ (n : Nat) (v0 : Nat) (v1 : Int64) (v3 : Int32) (v4 : Int32) (M : XM), lp_J7_fill_d0a16_6 n v0 v1 v3 v4 M = some q → AW l m_J7_fill_d0a16 1 0 0 (x_Rv q) 0 0 6 [some (.ref v0), some (.long v1), none, some (.int v3), some (.int v4)] [] M := by
  intro n
  induction n with
  | zero => intro v0 v1 v3 v4 M H; cases H
  | succ n ih => intro v0 v1 v3 v4 M H; exact tb_J7_fill_d0a16_6 l ih H
def f_J7_fill_d0a16 (v0 : Nat) (v1 : Int64) (M : XM) : Option XM :=
  if x_tag M v0 = 2 then (lp_J7_fill_d0a16_6 x_fuel v0 v1 (0 : Int32) (Int32.ofNat (x_len M v0)) M) else none
set_option maxRecDepth 20000 in
set_option maxHeartbeats 4000000 in
theorem t_J7_fill_d0a16 (l : Launch) {v0 : Nat} {v1 : Int64} {M : XM} {q : XM} (H : f_J7_fill_d0a16 v0 v1 M = some q) : AW l m_J7_fill_d0a16 1 0 0 (x_Rv q) 0 0 0 [some (.ref v0), some (.long v1), none, none, none] [] M := by
  unfold f_J7_fill_d0a16 at H
  refine x_iconst 0 (0 : Int32) dJ7_fill_d0a16_0 (by decide) ?_
  refine x_istore_n 1 3 [some (.ref v0), some (.long v1), none, some (.int (0 : Int32)), none] dJ7_fill_d0a16_1 rfl rfl (Nat.le_of_ble_eq_true rfl) rfl ?_
  refine x_aload_n 2 0 dJ7_fill_d0a16_2 rfl rfl ?_
  obtain ⟨h1, H⟩ := x_ckp H
  refine x_alen 3 2 dJ7_fill_d0a16_3 h1 (by decide) ?_
  refine x_istore 4 4 [some (.ref v0), some (.long v1), none, some (.int (0 : Int32)), some (.int (Int32.ofNat (x_len M v0)))] dJ7_fill_d0a16_4 rfl (Nat.le_of_ble_eq_true rfl) rfl ?_
  exact t_J7_fill_d0a16_6 l _ _ _ _ _ _ H

theorem ct_J7_fill_d0a16 (l : Launch) {v0 : Nat} {v1 : Int64} {M : XM} {q : XM} (H : f_J7_fill_d0a16 v0 v1 M = some q) : Ct l m_J7_fill_d0a16 1 0 0 [(.ref v0), (.long v1)] M (x_Rv q) := x_met l m_J7_fill_d0a16 1 0 0 [(.ref v0), (.long v1)] M (x_Rv q) _ rfl rfl (Nat.le_of_ble_eq_true rfl) (t_J7_fill_d0a16 l H)
theorem lk_420 : Cond.code yJ7_fill_d0a16 cJ7_fill_d0a16 5 none ∈ x_TB := x_tb (k := 420) (by decide +kernel) rfl
theorem lk_418 : Cond.methodLink RX6 29 yJ7_fill_d0a16 ∈ x_TB := x_tb (k := 418) (by decide +kernel) rfl
theorem lk_419 : Cond.static yJ7_fill_d0a16 ∈ x_TB := x_tb (k := 419) (by decide +kernel) rfl
abbrev m_X6_holdRow : XU := (yX6_holdRow, cX6_holdRow, 3, none)
theorem cn_X6_holdRow : m_X6_holdRow.1.cls ≠ "java/lang/invoke/MethodHandle" ∧ m_X6_holdRow.1.cls ≠ "java/lang/invoke/VarHandle" ∧ (parseMethodDescriptor m_X6_holdRow.1.desc).map (fun q => q.parameters.length) = some 2 := by decide +kernel
def f_X6_holdRow (v0 : Nat) (v1 : Int32) (v2 : Int32) (M : XM) : Option XM :=
  if x_tag M v0 = 6 + 10 then (x_lt (x_wi M v0 0 (-1 : Int32)) (fun M2 => x_lt (x_wi M2 v0 1 v1) (fun M5 => x_lt (x_wi M5 v0 2 v2) (fun M8 => x_bv (f_J7_fill_d0a16 (x_r M8 v0 3) (0 : Int64) M8) (fun M11 => some M11))))) else none
set_option maxRecDepth 20000 in
set_option maxHeartbeats 4000000 in
theorem t_X6_holdRow (l : Launch) {v0 : Nat} {v1 : Int32} {v2 : Int32} {M : XM} {q : XM} (H : f_X6_holdRow v0 v1 v2 M = some q) : AW l m_X6_holdRow 2 0 0 (x_Rv q) 0 0 0 [some (.ref v0), some (.int v1), some (.int v2)] [] M := by
  unfold f_X6_holdRow at H
  refine x_aload_n 0 0 dX6_holdRow_0 rfl rfl ?_
  refine x_iconst 1 (-1 : Int32) dX6_holdRow_1 (by decide) ?_
  obtain ⟨h1, H⟩ := x_ckp H
  obtain ⟨M2, w3, H⟩ := x_lt_of H
  have h4 : x_tag M2 v0 = 6 + 10 := by rw [w3]; exact h1
  refine x_putI' 2 9 6 0 dX6_holdRow_2 lk_342 (by decide) (by decide) rfl (Or.inl rfl) (Or.inl rfl) h1 w3 ?_
  refine x_aload_n 5 0 dX6_holdRow_5 rfl rfl ?_
  refine x_iload_n 6 1 dX6_holdRow_6 rfl rfl ?_
  obtain ⟨M5, w6, H⟩ := x_lt_of H
  have h7 : x_tag M5 v0 = 6 + 10 := by rw [w6]; exact h4
  refine x_putI' 7 15 6 1 dX6_holdRow_7 lk_344 (by decide) (by decide) rfl (Or.inl rfl) (Or.inl rfl) h4 w6 ?_
  refine x_aload_n 10 0 dX6_holdRow_10 rfl rfl ?_
  refine x_iload_n 11 2 dX6_holdRow_11 rfl rfl ?_
  obtain ⟨M8, w9, H⟩ := x_lt_of H
  have h10 : x_tag M8 v0 = 6 + 10 := by rw [w9]; exact h7
  refine x_putI' 12 26 6 2 dX6_holdRow_12 lk_347 (by decide) (by decide) rfl (Or.inl rfl) (Or.inl rfl) h7 w9 ?_
  refine x_aload_n 15 0 dX6_holdRow_15 rfl rfl ?_
  refine x_getf 16 18 6 3 (.ref (x_r M8 v0 3)) dX6_holdRow_16 lk_349 (by decide) (by decide) rfl (fun _ => rfl) h10 ?_
  refine x_lconst 19 (0 : Int64) dX6_holdRow_19 (by decide) ?_
  obtain ⟨M11, e13, H⟩ := x_bv_of H
  refine x_callS 20 29 [(.ref (x_r M8 v0 3)), (.long (0 : Int64))] [] dX6_holdRow_20 (ct_J7_fill_d0a16 l e13) lk_418 lk_419 lk_95 lk_420 ⟨cn_J7_fill_d0a16, (by decide), by decide⟩ rfl (Nat.le_of_ble_eq_true rfl) (Nat.le_of_ble_eq_true rfl) (Nat.le_of_ble_eq_true rfl) (x_rv ?_)
  cases H
  exact x_vret 23 dX6_holdRow_23 rfl (Nat.le_of_ble_eq_true rfl) (Nat.le_of_ble_eq_true rfl) ⟨rfl, rfl⟩

theorem ct_X6_holdRow (l : Launch) {v0 : Nat} {v1 : Int32} {v2 : Int32} {M : XM} {q : XM} (H : f_X6_holdRow v0 v1 v2 M = some q) : Ct l m_X6_holdRow 2 0 0 [(.ref v0), (.int v1), (.int v2)] M (x_Rv q) := x_met l m_X6_holdRow 2 0 0 [(.ref v0), (.int v1), (.int v2)] M (x_Rv q) _ rfl rfl (Nat.le_of_ble_eq_true rfl) (t_X6_holdRow l H)
abbrev m_X6_holdCounter : XU := (yX6_holdCounter, cX6_holdCounter, 2, none)
theorem cn_X6_holdCounter : m_X6_holdCounter.1.cls ≠ "java/lang/invoke/MethodHandle" ∧ m_X6_holdCounter.1.cls ≠ "java/lang/invoke/VarHandle" ∧ (parseMethodDescriptor m_X6_holdCounter.1.desc).map (fun q => q.parameters.length) = some 1 := by decide +kernel
def f_X6_holdCounter (v0 : Nat) (v1 : Int32) (M : XM) : Option XM :=
  if x_tag M v0 = 6 + 10 then (x_lt (x_wi M v0 0 v1) (fun M2 => x_lt (x_wi M2 v0 1 (-1 : Int32)) (fun M5 => x_lt (x_wi M5 v0 2 (0 : Int32)) (fun M8 => some M8)))) else none
set_option maxRecDepth 20000 in
set_option maxHeartbeats 4000000 in
theorem t_X6_holdCounter (l : Launch) {v0 : Nat} {v1 : Int32} {M : XM} {q : XM} (H : f_X6_holdCounter v0 v1 M = some q) : AW l m_X6_holdCounter 1 0 0 (x_Rv q) 0 0 0 [some (.ref v0), some (.int v1)] [] M := by
  unfold f_X6_holdCounter at H
  refine x_aload_n 0 0 dX6_holdCounter_0 rfl rfl ?_
  refine x_iload_n 1 1 dX6_holdCounter_1 rfl rfl ?_
  obtain ⟨h1, H⟩ := x_ckp H
  obtain ⟨M2, w3, H⟩ := x_lt_of H
  have h4 : x_tag M2 v0 = 6 + 10 := by rw [w3]; exact h1
  refine x_putI' 2 9 6 0 dX6_holdCounter_2 lk_342 (by decide) (by decide) rfl (Or.inl rfl) (Or.inl rfl) h1 w3 ?_
  refine x_aload_n 5 0 dX6_holdCounter_5 rfl rfl ?_
  refine x_iconst 6 (-1 : Int32) dX6_holdCounter_6 (by decide) ?_
  obtain ⟨M5, w6, H⟩ := x_lt_of H
  have h7 : x_tag M5 v0 = 6 + 10 := by rw [w6]; exact h4
  refine x_putI' 7 15 6 1 dX6_holdCounter_7 lk_344 (by decide) (by decide) rfl (Or.inl rfl) (Or.inl rfl) h4 w6 ?_
  refine x_aload_n 10 0 dX6_holdCounter_10 rfl rfl ?_
  refine x_iconst 11 (0 : Int32) dX6_holdCounter_11 (by decide) ?_
  obtain ⟨M8, w9, H⟩ := x_lt_of H
  have h10 : x_tag M8 v0 = 6 + 10 := by rw [w9]; exact h7
  refine x_putI' 12 26 6 2 dX6_holdCounter_12 lk_347 (by decide) (by decide) rfl (Or.inl rfl) (Or.inl rfl) h7 w9 ?_
  cases H
  exact x_vret 15 dX6_holdCounter_15 rfl (Nat.le_of_ble_eq_true rfl) (Nat.le_of_ble_eq_true rfl) ⟨rfl, rfl⟩

theorem ct_X6_holdCounter (l : Launch) {v0 : Nat} {v1 : Int32} {M : XM} {q : XM} (H : f_X6_holdCounter v0 v1 M = some q) : Ct l m_X6_holdCounter 1 0 0 [(.ref v0), (.int v1)] M (x_Rv q) := x_met l m_X6_holdCounter 1 0 0 [(.ref v0), (.int v1)] M (x_Rv q) _ rfl rfl (Nat.le_of_ble_eq_true rfl) (t_X6_holdCounter l H)
abbrev m_X6_hasPart : XU := (yX6_hasPart, cX6_hasPart, 3, (some .boolean))
theorem cn_X6_hasPart : m_X6_hasPart.1.cls ≠ "java/lang/invoke/MethodHandle" ∧ m_X6_hasPart.1.cls ≠ "java/lang/invoke/VarHandle" ∧ (parseMethodDescriptor m_X6_hasPart.1.desc).map (fun q => q.parameters.length) = some 2 := by decide +kernel
def f_X6_hasPart (v0 : Nat) (v1 : Int32) (v2 : Int32) (M : XM) : Option (Int32 × XM) :=
  if v1 < 0 then (some ((0 : Int32), M)) else (if v2 < 0 then (some ((0 : Int32), M)) else (if x_tag M v0 = 6 + 10 then (if ((x_i M v0 2) - v1) < v2 then (some ((0 : Int32), M)) else (some ((1 : Int32), M))) else none))
set_option maxRecDepth 20000 in
set_option maxHeartbeats 4000000 in
theorem t_X6_hasPart (l : Launch) {v0 : Nat} {v1 : Int32} {v2 : Int32} {M : XM} {q : Int32 × XM} (H : f_X6_hasPart v0 v1 v2 M = some q) : AW l m_X6_hasPart 1 0 0 (x_Ri q) 0 0 0 [some (.ref v0), some (.int v1), some (.int v2)] [] M := by
  unfold f_X6_hasPart at H
  refine x_iload_n 0 1 dX6_hasPart_0 rfl rfl ?_
  refine x_if_lt 1 22 dX6_hasPart_1 (by decide) (fun c1 => ?_) (fun c1 => ?_)
  · replace H := x_ifp c1 H
    refine x_iconst 22 (0 : Int32) dX6_hasPart_22 (by decide) ?_
    cases H
    exact x_iret 23 dX6_hasPart_23 .boolean rfl rfl (Nat.le_of_ble_eq_true rfl) (Nat.le_of_ble_eq_true rfl) ⟨rfl, rfl⟩
  · replace H := x_ifn c1 H
    refine x_iload_n 4 2 dX6_hasPart_4 rfl rfl ?_
    refine x_if_lt 5 22 dX6_hasPart_5 (by decide) (fun c2 => ?_) (fun c2 => ?_)
    · replace H := x_ifp c2 H
      refine x_iconst 22 (0 : Int32) dX6_hasPart_22 (by decide) ?_
      cases H
      exact x_iret 23 dX6_hasPart_23 .boolean rfl rfl (Nat.le_of_ble_eq_true rfl) (Nat.le_of_ble_eq_true rfl) ⟨rfl, rfl⟩
    · replace H := x_ifn c2 H
      refine x_iload_n 8 2 dX6_hasPart_8 rfl rfl ?_
      refine x_aload_n 9 0 dX6_hasPart_9 rfl rfl ?_
      obtain ⟨h3, H⟩ := x_ckp H
      refine x_getf 10 26 6 2 (.int (x_i M v0 2)) dX6_hasPart_10 lk_347 (by decide) (by decide) rfl (fun _ => rfl) h3 ?_
      refine x_iload_n 13 1 dX6_hasPart_13 rfl rfl ?_
      refine x_isub 14 dX6_hasPart_14 ?_
      refine x_icmp_gt 15 22 dX6_hasPart_15 (by decide) (fun c4 => ?_) (fun c4 => ?_)
      · replace H := x_ifp c4 H
        refine x_iconst 22 (0 : Int32) dX6_hasPart_22 (by decide) ?_
        cases H
        exact x_iret 23 dX6_hasPart_23 .boolean rfl rfl (Nat.le_of_ble_eq_true rfl) (Nat.le_of_ble_eq_true rfl) ⟨rfl, rfl⟩
      · replace H := x_ifn c4 H
        refine x_iconst 18 (1 : Int32) dX6_hasPart_18 (by decide) ?_
        refine x_goto 19 23 dX6_hasPart_19 (by decide) ?_
        cases H
        exact x_iret 23 dX6_hasPart_23 .boolean rfl rfl (Nat.le_of_ble_eq_true rfl) (Nat.le_of_ble_eq_true rfl) ⟨rfl, rfl⟩

theorem ct_X6_hasPart (l : Launch) {v0 : Nat} {v1 : Int32} {v2 : Int32} {M : XM} {q : Int32 × XM} (H : f_X6_hasPart v0 v1 v2 M = some q) : Ct l m_X6_hasPart 1 0 0 [(.ref v0), (.int v1), (.int v2)] M (x_Ri q) := x_met l m_X6_hasPart 1 0 0 [(.ref v0), (.int v1), (.int v2)] M (x_Ri q) _ rfl rfl (Nat.le_of_ble_eq_true rfl) (t_X6_hasPart l H)
abbrev m_X6_become : XU := (yX6_become, cX6_become, 4, none)
theorem cn_X6_become : m_X6_become.1.cls ≠ "java/lang/invoke/MethodHandle" ∧ m_X6_become.1.cls ≠ "java/lang/invoke/VarHandle" ∧ (parseMethodDescriptor m_X6_become.1.desc).map (fun q => q.parameters.length) = some 2 := by decide +kernel
def f_X6_become_c2 (v0 : Nat) (v1 : Int32) (v2 : Int64) (s0 : Int32) (M : XM) : Option XM :=
  if s0 = 0 then (some M) else (if x_tag M v0 = 6 + 10 then (if (x_i M v0 1) = (0 : Int32) then (if x_at M (x_r M v0 3) 2 v1 = true then (x_lt (x_wj M (x_r M v0 3) v1.toNatClampNeg (((v2.toInt32).toInt8.toInt32).toInt64)) (fun M9 => some M9)) else none) else if (x_i M v0 1) = (1 : Int32) then (if x_at M (x_r M v0 3) 2 v1 = true then (x_lt (x_wj M (x_r M v0 3) v1.toNatClampNeg (((v2.toInt32).toInt16.toInt32).toInt64)) (fun M16 => some M16)) else none) else if (x_i M v0 1) = (2 : Int32) then (if x_at M (x_r M v0 3) 2 v1 = true then (x_lt (x_wj M (x_r M v0 3) v1.toNatClampNeg ((v2.toInt32).toInt64)) (fun M23 => some M23)) else none) else if x_at M (x_r M v0 3) 2 v1 = true then (x_lt (x_wj M (x_r M v0 3) v1.toNatClampNeg v2) (fun M29 => some M29)) else none) else none)
set_option maxRecDepth 20000 in
set_option maxHeartbeats 4000000 in
theorem t_X6_become_c2 (l : Launch) {v0 : Nat} {v1 : Int32} {v2 : Int64} {s0 : Int32} {M : XM} {q : XM} (H : f_X6_become_c2 v0 v1 v2 s0 M = some q) : AW l m_X6_become 2 0 0 (x_Rv q) 0 0 5 [some (.ref v0), some (.int v1), some (.long v2), none] [(.int s0)] M := by
  unfold f_X6_become_c2 at H
  refine x_if_ne 5 9 dX6_become_5 (by decide) (fun c5 => ?_) (fun c5 => ?_)
  · replace H := x_ifn c5 H
    refine x_aload_n 9 0 dX6_become_9 rfl rfl ?_
    obtain ⟨h6, H⟩ := x_ckp H
    refine x_getf 10 15 6 1 (.int (x_i M v0 1)) dX6_become_10 lk_344 (by decide) (by decide) rfl (fun _ => rfl) h6 ?_
    by_cases c7 : (x_i M v0 1) = (0 : Int32)
    · replace H := x_ifp c7 H
      refine x_tableIn (off := 27) 13 40 dX6_become_13 (by rw [c7]; decide) (by rw [c7]; decide) (by rw [c7]; rfl) (by decide) ?_
      refine x_aload_n 40 0 dX6_become_40 rfl rfl ?_
      refine x_getf 41 18 6 3 (.ref (x_r M v0 3)) dX6_become_41 lk_349 (by decide) (by decide) rfl (fun _ => rfl) h6 ?_
      refine x_iload_n 44 1 dX6_become_44 rfl rfl ?_
      refine x_lload_n 45 2 dX6_become_45 rfl rfl ?_
      refine x_l2i 46 dX6_become_46 ?_
      refine x_i2b 47 dX6_become_47 ?_
      refine x_i2l 48 dX6_become_48 ?_
      obtain ⟨h8, H⟩ := x_ckp H
      obtain ⟨M9, w10, H⟩ := x_lt_of H
      have h11 : x_tag M9 v0 = 6 + 10 := by rw [w10]; exact h6
      have h12 : x_at M9 (x_r M v0 3) 2 v1 = true := by rw [w10]; exact h8
      have h13 : x_tag M9 (x_r M v0 3) = 2 := by rw [w10]; exact (x_at_1 h8)
      refine x_last' 49 dX6_become_49 h8 w10 ?_
      refine x_goto 50 85 dX6_become_50 (by decide) ?_
      cases H
      exact x_vret 85 dX6_become_85 rfl (Nat.le_of_ble_eq_true rfl) (Nat.le_of_ble_eq_true rfl) ⟨rfl, rfl⟩
    · replace H := x_ifn c7 H
      by_cases c14 : (x_i M v0 1) = (1 : Int32)
      · replace H := x_ifp c14 H
        refine x_tableIn (off := 40) 13 53 dX6_become_13 (by rw [c14]; decide) (by rw [c14]; decide) (by rw [c14]; rfl) (by decide) ?_
        refine x_aload_n 53 0 dX6_become_53 rfl rfl ?_
        refine x_getf 54 18 6 3 (.ref (x_r M v0 3)) dX6_become_54 lk_349 (by decide) (by decide) rfl (fun _ => rfl) h6 ?_
        refine x_iload_n 57 1 dX6_become_57 rfl rfl ?_
        refine x_lload_n 58 2 dX6_become_58 rfl rfl ?_
        refine x_l2i 59 dX6_become_59 ?_
        refine x_i2s 60 dX6_become_60 ?_
        refine x_i2l 61 dX6_become_61 ?_
        obtain ⟨h15, H⟩ := x_ckp H
        obtain ⟨M16, w17, H⟩ := x_lt_of H
        have h18 : x_tag M16 v0 = 6 + 10 := by rw [w17]; exact h6
        have h19 : x_at M16 (x_r M v0 3) 2 v1 = true := by rw [w17]; exact h15
        have h20 : x_tag M16 (x_r M v0 3) = 2 := by rw [w17]; exact (x_at_1 h15)
        refine x_last' 62 dX6_become_62 h15 w17 ?_
        refine x_goto 63 85 dX6_become_63 (by decide) ?_
        cases H
        exact x_vret 85 dX6_become_85 rfl (Nat.le_of_ble_eq_true rfl) (Nat.le_of_ble_eq_true rfl) ⟨rfl, rfl⟩
      · replace H := x_ifn c14 H
        by_cases c21 : (x_i M v0 1) = (2 : Int32)
        · replace H := x_ifp c21 H
          refine x_tableIn (off := 53) 13 66 dX6_become_13 (by rw [c21]; decide) (by rw [c21]; decide) (by rw [c21]; rfl) (by decide) ?_
          refine x_aload_n 66 0 dX6_become_66 rfl rfl ?_
          refine x_getf 67 18 6 3 (.ref (x_r M v0 3)) dX6_become_67 lk_349 (by decide) (by decide) rfl (fun _ => rfl) h6 ?_
          refine x_iload_n 70 1 dX6_become_70 rfl rfl ?_
          refine x_lload_n 71 2 dX6_become_71 rfl rfl ?_
          refine x_l2i 72 dX6_become_72 ?_
          refine x_i2l 73 dX6_become_73 ?_
          obtain ⟨h22, H⟩ := x_ckp H
          obtain ⟨M23, w24, H⟩ := x_lt_of H
          have h25 : x_tag M23 v0 = 6 + 10 := by rw [w24]; exact h6
          have h26 : x_at M23 (x_r M v0 3) 2 v1 = true := by rw [w24]; exact h22
          have h27 : x_tag M23 (x_r M v0 3) = 2 := by rw [w24]; exact (x_at_1 h22)
          refine x_last' 74 dX6_become_74 h22 w24 ?_
          refine x_goto 75 85 dX6_become_75 (by decide) ?_
          cases H
          exact x_vret 85 dX6_become_85 rfl (Nat.le_of_ble_eq_true rfl) (Nat.le_of_ble_eq_true rfl) ⟨rfl, rfl⟩
        · replace H := x_ifn c21 H
          refine x_tableOut 13 78 dX6_become_13 (by have n0 := lv_neT (a := 0) c7 (by decide); have n1 := lv_neT (a := 1) c14 (by decide); have n2 := lv_neT (a := 2) c21 (by decide); omega) (by decide) ?_
          refine x_aload_n 78 0 dX6_become_78 rfl rfl ?_
          refine x_getf 79 18 6 3 (.ref (x_r M v0 3)) dX6_become_79 lk_349 (by decide) (by decide) rfl (fun _ => rfl) h6 ?_
          refine x_iload_n 82 1 dX6_become_82 rfl rfl ?_
          refine x_lload_n 83 2 dX6_become_83 rfl rfl ?_
          obtain ⟨h28, H⟩ := x_ckp H
          obtain ⟨M29, w30, H⟩ := x_lt_of H
          have h31 : x_tag M29 v0 = 6 + 10 := by rw [w30]; exact h6
          have h32 : x_at M29 (x_r M v0 3) 2 v1 = true := by rw [w30]; exact h28
          have h33 : x_tag M29 (x_r M v0 3) = 2 := by rw [w30]; exact (x_at_1 h28)
          refine x_last' 84 dX6_become_84 h28 w30 ?_
          cases H
          exact x_vret 85 dX6_become_85 rfl (Nat.le_of_ble_eq_true rfl) (Nat.le_of_ble_eq_true rfl) ⟨rfl, rfl⟩
  · replace H := x_ifp c5 H
    cases H
    exact x_vret 8 dX6_become_8 rfl (Nat.le_of_ble_eq_true rfl) (Nat.le_of_ble_eq_true rfl) ⟨rfl, rfl⟩

def f_X6_become (v0 : Nat) (v1 : Int32) (v2 : Int64) (M : XM) : Option XM :=
  if x_tag M v0 = 6 + 10 then (x_bd (f_X6_hasElement v0 v1 M) (f_X6_become_c2 v0 v1 v2)) else none
set_option maxRecDepth 20000 in
set_option maxHeartbeats 4000000 in
theorem t_X6_become (l : Launch) {v0 : Nat} {v1 : Int32} {v2 : Int64} {M : XM} {q : XM} (H : f_X6_become v0 v1 v2 M = some q) : AW l m_X6_become 2 0 0 (x_Rv q) 0 0 0 [some (.ref v0), some (.int v1), some (.long v2), none] [] M := by
  unfold f_X6_become at H
  refine x_aload_n 0 0 dX6_become_0 rfl rfl ?_
  refine x_iload_n 1 1 dX6_become_1 rfl rfl ?_
  obtain ⟨h1, H⟩ := x_ckp H
  obtain ⟨r3, M2, e4, H⟩ := x_bd_of H
  refine x_callV 2 35 6 [(.int v1)] [] dX6_become_2 (ct_X6_hasElement l e4) lk_449 lk_442 lk_443 (by decide) h1 lk_93 lk_444 ⟨cn_X6_hasElement, (by decide), by decide⟩ rfl (Nat.le_of_ble_eq_true rfl) (Nat.le_of_ble_eq_true rfl) (Nat.le_of_ble_eq_true rfl) (x_ri ?_)
  exact t_X6_become_c2 l H

theorem ct_X6_become (l : Launch) {v0 : Nat} {v1 : Int32} {v2 : Int64} {M : XM} {q : XM} (H : f_X6_become v0 v1 v2 M = some q) : Ct l m_X6_become 2 0 0 [(.ref v0), (.int v1), (.long v2)] M (x_Rv q) := x_met l m_X6_become 2 0 0 [(.ref v0), (.int v1), (.long v2)] M (x_Rv q) _ rfl rfl (Nat.le_of_ble_eq_true rfl) (t_X6_become l H)
theorem lk_457 : Cond.code yX6_hasPart cX6_hasPart 3 (some .boolean) ∈ x_TB := x_tb (k := 457) (by decide +kernel) rfl
theorem lk_462 : Cond.methodLink RX6 43 yX6_hasPart ∈ x_TB := x_tb (k := 462) (by decide +kernel) rfl
theorem lk_456 : Cond.selects RX6 yX6_hasPart yX6_hasPart ∈ x_TB := x_tb (k := 456) (by decide +kernel) rfl
theorem lk_455 : Cond.instanceMethod yX6_hasPart ∈ x_TB := x_tb (k := 455) (by decide +kernel) rfl
theorem lk_463 : Cond.methodLink RX6 47 arraycopyName ∈ x_TB := x_tb (k := 463) (by decide +kernel) rfl
theorem lk_465 : Cond.native arraycopyName ∈ x_TB := x_tb (k := 465) (by decide +kernel) rfl
theorem lk_464 : Cond.static arraycopyName ∈ x_TB := x_tb (k := 464) (by decide +kernel) rfl
theorem lk_96 : Cond.initialized "java/lang/System" ∈ x_TB := x_tb (k := 96) (by decide +kernel) rfl
abbrev m_X6_takePart : XU := (yX6_takePart, cX6_takePart, 5, none)
theorem cn_X6_takePart : m_X6_takePart.1.cls ≠ "java/lang/invoke/MethodHandle" ∧ m_X6_takePart.1.cls ≠ "java/lang/invoke/VarHandle" ∧ (parseMethodDescriptor m_X6_takePart.1.desc).map (fun q => q.parameters.length) = some 4 := by decide +kernel
def f_X6_takePart_c14 (v0 : Nat) (v1 : Nat) (v2 : Int32) (v3 : Int32) (v4 : Int32) (s0 : Int32) (M : XM) : Option XM :=
  if s0 = 0 then (some M) else (if x_tag M v1 = 6 + 10 then (if x_tag M v0 = 6 + 10 then (if x_cpok M (x_r M v1 3) (x_r M v0 3) v2 v3 v4 = true then (x_lt (x_cpj M (x_r M v1 3) v2.toNatClampNeg (x_r M v0 3) v3.toNatClampNeg v4.toNatClampNeg) (fun M14 => some M14)) else none) else none) else none)
set_option maxRecDepth 20000 in
set_option maxHeartbeats 4000000 in
theorem t_X6_takePart_c14 (l : Launch) {v0 : Nat} {v1 : Nat} {v2 : Int32} {v3 : Int32} {v4 : Int32} {s0 : Int32} {M : XM} {q : XM} (H : f_X6_takePart_c14 v0 v1 v2 v3 v4 s0 M = some q) : AW l m_X6_takePart 2 0 0 (x_Rv q) 0 0 17 [some (.ref v0), some (.ref v1), some (.int v2), some (.int v3), some (.int v4)] [(.int s0)] M := by
  unfold f_X6_takePart_c14 at H
  refine x_if_eq 17 35 dX6_takePart_17 (by decide) (fun c10 => ?_) (fun c10 => ?_)
  · replace H := x_ifp c10 H
    cases H
    exact x_vret 35 dX6_takePart_35 rfl (Nat.le_of_ble_eq_true rfl) (Nat.le_of_ble_eq_true rfl) ⟨rfl, rfl⟩
  · replace H := x_ifn c10 H
    refine x_aload_n 20 1 dX6_takePart_20 rfl rfl ?_
    obtain ⟨h11, H⟩ := x_ckp H
    refine x_getf 21 18 6 3 (.ref (x_r M v1 3)) dX6_takePart_21 lk_349 (by decide) (by decide) rfl (fun _ => rfl) h11 ?_
    refine x_iload_n 24 2 dX6_takePart_24 rfl rfl ?_
    refine x_aload_n 25 0 dX6_takePart_25 rfl rfl ?_
    obtain ⟨h12, H⟩ := x_ckp H
    refine x_getf 26 18 6 3 (.ref (x_r M v0 3)) dX6_takePart_26 lk_349 (by decide) (by decide) rfl (fun _ => rfl) h12 ?_
    refine x_iload_n 29 3 dX6_takePart_29 rfl rfl ?_
    refine x_iload 30 4 dX6_takePart_30 rfl ?_
    obtain ⟨h13, H⟩ := x_ckp H
    obtain ⟨M14, w15, H⟩ := x_lt_of H
    have h16 : x_tag M14 v1 = 6 + 10 := by rw [w15]; exact h11
    have h17 : x_tag M14 v0 = 6 + 10 := by rw [w15]; exact h12
    refine x_acopy' 32 47 dX6_takePart_32 lk_463 lk_465 lk_464 lk_96 rfl (Nat.le_of_ble_eq_true rfl) (by decide) h13 w15 ?_
    cases H
    exact x_vret 35 dX6_takePart_35 rfl (Nat.le_of_ble_eq_true rfl) (Nat.le_of_ble_eq_true rfl) ⟨rfl, rfl⟩

def f_X6_takePart_c4 (v0 : Nat) (v1 : Nat) (v2 : Int32) (v3 : Int32) (v4 : Int32) (s0 : Int32) (M : XM) : Option XM :=
  if s0 = 0 then (some M) else (if x_tag M v0 = 6 + 10 then (x_bd (f_X6_hasPart v0 v3 v4 M) (f_X6_takePart_c14 v0 v1 v2 v3 v4)) else none)
set_option maxRecDepth 20000 in
set_option maxHeartbeats 4000000 in
theorem t_X6_takePart_c4 (l : Launch) {v0 : Nat} {v1 : Nat} {v2 : Int32} {v3 : Int32} {v4 : Int32} {s0 : Int32} {M : XM} {q : XM} (H : f_X6_takePart_c4 v0 v1 v2 v3 v4 s0 M = some q) : AW l m_X6_takePart 2 0 0 (x_Rv q) 0 0 7 [some (.ref v0), some (.ref v1), some (.int v2), some (.int v3), some (.int v4)] [(.int s0)] M := by
  unfold f_X6_takePart_c4 at H
  refine x_if_eq 7 35 dX6_takePart_7 (by decide) (fun c5 => ?_) (fun c5 => ?_)
  · replace H := x_ifp c5 H
    cases H
    exact x_vret 35 dX6_takePart_35 rfl (Nat.le_of_ble_eq_true rfl) (Nat.le_of_ble_eq_true rfl) ⟨rfl, rfl⟩
  · replace H := x_ifn c5 H
    refine x_aload_n 10 0 dX6_takePart_10 rfl rfl ?_
    refine x_iload_n 11 3 dX6_takePart_11 rfl rfl ?_
    refine x_iload 12 4 dX6_takePart_12 rfl ?_
    obtain ⟨h6, H⟩ := x_ckp H
    obtain ⟨r8, M7, e9, H⟩ := x_bd_of H
    refine x_callV 14 43 6 [(.int v3), (.int v4)] [] dX6_takePart_14 (ct_X6_hasPart l e9) lk_462 lk_455 lk_456 (by decide) h6 lk_93 lk_457 ⟨cn_X6_hasPart, (by decide), by decide⟩ rfl (Nat.le_of_ble_eq_true rfl) (Nat.le_of_ble_eq_true rfl) (Nat.le_of_ble_eq_true rfl) (x_ri ?_)
    exact t_X6_takePart_c14 l H

def f_X6_takePart (v0 : Nat) (v1 : Nat) (v2 : Int32) (v3 : Int32) (v4 : Int32) (M : XM) : Option XM :=
  if x_tag M v1 = 6 + 10 then (x_bd (f_X6_hasPart v1 v2 v4 M) (f_X6_takePart_c4 v0 v1 v2 v3 v4)) else none
set_option maxRecDepth 20000 in
set_option maxHeartbeats 4000000 in
theorem t_X6_takePart (l : Launch) {v0 : Nat} {v1 : Nat} {v2 : Int32} {v3 : Int32} {v4 : Int32} {M : XM} {q : XM} (H : f_X6_takePart v0 v1 v2 v3 v4 M = some q) : AW l m_X6_takePart 2 0 0 (x_Rv q) 0 0 0 [some (.ref v0), some (.ref v1), some (.int v2), some (.int v3), some (.int v4)] [] M := by
  unfold f_X6_takePart at H
  refine x_aload_n 0 1 dX6_takePart_0 rfl rfl ?_
  refine x_iload_n 1 2 dX6_takePart_1 rfl rfl ?_
  refine x_iload 2 4 dX6_takePart_2 rfl ?_
  obtain ⟨h1, H⟩ := x_ckp H
  obtain ⟨r3, M2, e4, H⟩ := x_bd_of H
  refine x_callV 4 43 6 [(.int v2), (.int v4)] [] dX6_takePart_4 (ct_X6_hasPart l e4) lk_462 lk_455 lk_456 (by decide) h1 lk_93 lk_457 ⟨cn_X6_hasPart, (by decide), by decide⟩ rfl (Nat.le_of_ble_eq_true rfl) (Nat.le_of_ble_eq_true rfl) (Nat.le_of_ble_eq_true rfl) (x_ri ?_)
  exact t_X6_takePart_c4 l H

theorem ct_X6_takePart (l : Launch) {v0 : Nat} {v1 : Nat} {v2 : Int32} {v3 : Int32} {v4 : Int32} {M : XM} {q : XM} (H : f_X6_takePart v0 v1 v2 v3 v4 M = some q) : Ct l m_X6_takePart 2 0 0 [(.ref v0), (.ref v1), (.int v2), (.int v3), (.int v4)] M (x_Rv q) := x_met l m_X6_takePart 2 0 0 [(.ref v0), (.ref v1), (.int v2), (.int v3), (.int v4)] M (x_Rv q) _ rfl rfl (Nat.le_of_ble_eq_true rfl) (t_X6_takePart l H)
theorem lk_239 : Cond.methodLink RX7 3 Lib.objectInit ∈ x_TB := x_tb (k := 239) (by decide +kernel) rfl
theorem lk_240 : Cond.classLink RX7 9 RX2 ∈ x_TB := x_tb (k := 240) (by decide +kernel) rfl
theorem lk_242 : Cond.fieldLink RX7 12 RX7 "who" "LWhatDidYouSay$Counter;" ∈ x_TB := x_tb (k := 242) (by decide +kernel) rfl
theorem lk_244 : Cond.fieldLink RX7 18 RX7 "breaks" "[I" ∈ x_TB := x_tb (k := 244) (by decide +kernel) rfl
abbrev m_X7_init : XU := (yX7_init, cX7_init, 1, none)
theorem cn_X7_init : m_X7_init.1.cls ≠ "java/lang/invoke/MethodHandle" ∧ m_X7_init.1.cls ≠ "java/lang/invoke/VarHandle" ∧ (parseMethodDescriptor m_X7_init.1.desc).map (fun q => q.parameters.length) = some 0 := by decide +kernel
def f_X7_init_c9 (v0 : Nat) (s0 : Nat) (s1 : Nat) (M : XM) : Option XM :=
  if x_tag M s1 = 7 + 10 then (x_lt (x_wr M s1 0 s0) (fun M11 => x_al M11 1 40 (fun a15 M14 => if x_tag M14 v0 = 7 + 10 then (x_lt (x_wr M14 v0 1 a15) (fun M20 => some M20)) else none))) else none
set_option maxRecDepth 20000 in
set_option maxHeartbeats 4000000 in
theorem t_X7_init_c9 (l : Launch) {v0 : Nat} {s0 : Nat} {s1 : Nat} {M : XM} {q : XM} (H : f_X7_init_c9 v0 s0 s1 M = some q) : AW l m_X7_init 2 2 45 (x_Rv q) 1 5 12 [some (.ref v0)] [(.ref s0), (.ref s1)] M := by
  unfold f_X7_init_c9 at H
  obtain ⟨h10, H⟩ := x_ckp H
  obtain ⟨M11, w12, H⟩ := x_lt_of H
  have h13 : x_tag M11 s1 = 7 + 10 := by rw [w12]; exact h10
  refine x_putR' 12 12 7 0 dX7_init_12 lk_242 (by decide) (by decide) rfl (Or.inl ⟨_, rfl⟩) (Or.inr ⟨rfl, rfl⟩) h10 w12 ?_
  refine x_aload_n 15 0 dX7_init_15 rfl rfl ?_
  refine x_bipush 16 (40 : Int32) dX7_init_16 (by decide) ?_
  obtain ⟨a15, M14, w16, w17, H⟩ := x_al_of H
  refine x_newI' 18 40 dX7_init_18 lk_153 (by decide) (by decide) (by decide) (Nat.le_of_ble_eq_true rfl) (Nat.le_of_ble_eq_true rfl) w16 w17 ?_
  have h18 : x_tag M14 a15 = 1 := x_al_tag w16 w17
  change AW _ _ _ _ _ _ 2 45 _ _ _ _
  obtain ⟨h19, H⟩ := x_ckp H
  obtain ⟨M20, w21, H⟩ := x_lt_of H
  have h22 : x_tag M20 a15 = 1 := by rw [w21]; exact h18
  have h23 : x_tag M20 v0 = 7 + 10 := by rw [w21]; exact h19
  refine x_putR' 20 18 7 1 dX7_init_20 lk_244 (by decide) (by decide) rfl (Or.inr ⟨_, rfl⟩) (Or.inr ⟨rfl, rfl⟩) h19 w21 ?_
  cases H
  exact x_vret 23 dX7_init_23 rfl (Nat.le_of_ble_eq_true rfl) (Nat.le_of_ble_eq_true rfl) ⟨rfl, rfl⟩

def f_X7_init (v0 : Nat) (M : XM) : Option XM :=
  if x_tag M v0 = 7 + 10 then (x_al M (2 + 10) 0 (fun a3 M2 => x_bv (f_X2_init a3 M2) (f_X7_init_c9 v0 a3 v0))) else none
set_option maxRecDepth 20000 in
set_option maxHeartbeats 4000000 in
theorem t_X7_init (l : Launch) {v0 : Nat} {M : XM} {q : XM} (H : f_X7_init v0 M = some q) : AW l m_X7_init 2 2 45 (x_Rv q) 0 0 0 [some (.ref v0)] [] M := by
  unfold f_X7_init at H
  refine x_aload_n 0 0 dX7_init_0 rfl rfl ?_
  obtain ⟨h1, H⟩ := x_ckp H
  refine x_objInit 1 3 dX7_init_1 lk_239 lk_108 lk_109 h1 rfl (Nat.le_of_ble_eq_true rfl) (by decide) ?_
  refine x_aload_n 4 0 dX7_init_4 rfl rfl ?_
  obtain ⟨a3, M2, w4, w5, H⟩ := x_al_of H
  refine x_newc' 5 9 2 dX7_init_5 (by decide) lk_240 lk_118 lk_87 (Nat.le_of_ble_eq_true rfl) (Nat.le_of_ble_eq_true rfl) w4 w5 ?_
  have h6 : x_tag M2 a3 = 2 + 10 := x_al_tag w4 w5
  change AW _ _ _ _ _ _ 1 5 _ _ _ _
  refine x_dup 8 dX7_init_8 rfl ?_
  obtain ⟨M7, e9, H⟩ := x_bv_of H
  refine x_callIN 9 11 [] [(.ref a3), (.ref v0)] dX7_init_9 (ct_X2_init l e9) (List.mem_of_getElem? (i := 3) rfl) rfl rfl lk_120 h6 lk_87 lk_121 ⟨cn_X2_init, (by decide), by decide⟩ rfl (Nat.le_of_ble_eq_true rfl) (Nat.le_of_ble_eq_true rfl) (Nat.le_of_ble_eq_true rfl) (x_rv ?_)
  exact t_X7_init_c9 l H

theorem ct_X7_init (l : Launch) {v0 : Nat} {M : XM} {q : XM} (H : f_X7_init v0 M = some q) : Ct l m_X7_init 2 2 45 [(.ref v0)] M (x_Rv q) := x_met l m_X7_init 2 2 45 [(.ref v0)] M (x_Rv q) _ rfl rfl (Nat.le_of_ble_eq_true rfl) (t_X7_init l H)
theorem lk_156 : Cond.fieldLink RX7 22 RX4 "counters" "[LWhatDidYouSay$Counter;" ∈ x_TB := x_tb (k := 156) (by decide +kernel) rfl
theorem lk_751 : Cond.methodLink RX7 28 yX2_becomeLike ∈ x_TB := x_tb (k := 751) (by decide +kernel) rfl
theorem lk_163 : Cond.fieldLink RX7 32 RX4 "n" "I" ∈ x_TB := x_tb (k := 163) (by decide +kernel) rfl
theorem lk_248 : Cond.fieldLink RX7 36 RX7 "n" "I" ∈ x_TB := x_tb (k := 248) (by decide +kernel) rfl
theorem lk_169 : Cond.fieldLink RX7 37 RX4 "apart" "I" ∈ x_TB := x_tb (k := 169) (by decide +kernel) rfl
theorem lk_249 : Cond.fieldLink RX7 40 RX7 "apart" "I" ∈ x_TB := x_tb (k := 249) (by decide +kernel) rfl
theorem lk_752 : Cond.methodLink RX7 41 Lib.Math.min.name ∈ x_TB := x_tb (k := 752) (by decide +kernel) rfl
theorem lk_245 : Cond.fieldLink RX7 47 RX7 "told" "I" ∈ x_TB := x_tb (k := 245) (by decide +kernel) rfl
theorem lk_246 : Cond.fieldLink RX7 56 RX7 "next" "I" ∈ x_TB := x_tb (k := 246) (by decide +kernel) rfl
theorem lk_247 : Cond.fieldLink RX7 59 RX7 "second" "I" ∈ x_TB := x_tb (k := 247) (by decide +kernel) rfl
theorem lk_753 : Cond.methodLink RX7 50 yX6_intAt ∈ x_TB := x_tb (k := 753) (by decide +kernel) rfl
abbrev m_X7_begin : XU := (yX7_begin, cX7_begin, 6, none)
theorem cn_X7_begin : m_X7_begin.1.cls ≠ "java/lang/invoke/MethodHandle" ∧ m_X7_begin.1.cls ≠ "java/lang/invoke/VarHandle" ∧ (parseMethodDescriptor m_X7_begin.1.desc).map (fun q => q.parameters.length) = some 4 := by decide +kernel
def f_X7_begin_c64 (κ46 : Nat → Nat → Int32 → XM → Option XM) (v0 : Nat) (v3 : Nat) (v5 : Int32) (s1 : Int32) (s2 : Nat) (s0 : Int32) (M : XM) : Option XM :=
  if x_at M s2 1 s1 = true then (x_lt (x_wi M s2 s1.toNatClampNeg s0) (fun M37 => κ46 v0 v3 (v5 + (1 : Int32)) M37)) else none
set_option maxRecDepth 20000 in
set_option maxHeartbeats 4000000 in
theorem t_X7_begin_c64 (l : Launch) {κ46 : Nat → Nat → Int32 → XM → Option XM} {v0 : Nat} {v3 : Nat} {v5 : Int32} {s1 : Int32} {s2 : Nat} {s0 : Int32} {M : XM} {q : XM} (hκ46 : ∀ (v0 : Nat) (v3 : Nat) (v5 : Int32) (M : XM), κ46 v0 v3 v5 M = some q → AW l m_X7_begin 4 0 0 (x_Rv q) 0 0 46 [some (.ref v0), none, none, some (.ref v3), none, some (.int v5)] [] M) (H : f_X7_begin_c64 κ46 v0 v3 v5 s1 s2 s0 M = some q) : AW l m_X7_begin 4 0 0 (x_Rv q) 0 0 67 [some (.ref v0), none, none, some (.ref v3), none, some (.int v5)] [(.int s0), (.int s1), (.ref s2)] M := by
  unfold f_X7_begin_c64 at H
  obtain ⟨h36, H⟩ := x_ckp H
  obtain ⟨M37, w38, H⟩ := x_lt_of H
  have h39 : x_at M37 s2 1 s1 = true := by rw [w38]; exact h36
  have h40 : x_tag M37 s2 = 1 := by rw [w38]; exact (x_at_1 h36)
  refine x_iast' 67 dX7_begin_67 h36 w38 ?_
  refine x_iinc 68 5 (v5 + (1 : Int32)) [some (.ref v0), none, none, some (.ref v3), none, some (.int (v5 + (1 : Int32)))] dX7_begin_68 rfl (congrArg (fun z : Int32 => v5 + z) (show Int32.ofInt (1) = (1 : Int32) by decide)) rfl (Nat.le_of_ble_eq_true rfl) rfl ?_
  refine x_goto 71 46 dX7_begin_71 (by decide) ?_
  exact hκ46 _ _ _ _ H

def bd_X7_begin_46 (κ46 : Nat → Nat → Int32 → XM → Option XM) (v0 : Nat) (v3 : Nat) (v5 : Int32) (M : XM) : Option XM :=
  if x_tag M v0 = 7 + 10 then (if (x_i M v0 2) ≤ v5 then (x_lt (x_wi M v0 3 (0 : Int32)) (fun M26 => x_lt (x_wi M26 v0 4 (0 : Int32)) (fun M29 => some M29))) else (if x_tag M v3 = 6 + 10 then (x_bd (f_X6_intAt v3 v5 M) (f_X7_begin_c64 κ46 v0 v3 v5 v5 (x_r M v0 1))) else none)) else none
set_option maxRecDepth 20000 in
set_option maxHeartbeats 4000000 in
theorem tb_X7_begin_46 (l : Launch) {κ46 : Nat → Nat → Int32 → XM → Option XM} {v0 : Nat} {v3 : Nat} {v5 : Int32} {M : XM} {q : XM} (hκ46 : ∀ (v0 : Nat) (v3 : Nat) (v5 : Int32) (M : XM), κ46 v0 v3 v5 M = some q → AW l m_X7_begin 4 0 0 (x_Rv q) 0 0 46 [some (.ref v0), none, none, some (.ref v3), none, some (.int v5)] [] M) (H : bd_X7_begin_46 κ46 v0 v3 v5 M = some q) : AW l m_X7_begin 4 0 0 (x_Rv q) 0 0 46 [some (.ref v0), none, none, some (.ref v3), none, some (.int v5)] [] M := by
  unfold bd_X7_begin_46 at H
  refine x_iload 46 5 dX7_begin_46 rfl ?_
  refine x_aload_n 48 0 dX7_begin_48 rfl rfl ?_
  obtain ⟨h24, H⟩ := x_ckp H
  refine x_getf 49 47 7 2 (.int (x_i M v0 2)) dX7_begin_49 lk_245 (by decide) (by decide) rfl (fun _ => rfl) h24 ?_
  refine x_icmp_ge 52 74 dX7_begin_52 (by decide) (fun c25 => ?_) (fun c25 => ?_)
  · replace H := x_ifp c25 H
    refine x_aload_n 74 0 dX7_begin_74 rfl rfl ?_
    refine x_iconst 75 (0 : Int32) dX7_begin_75 (by decide) ?_
    obtain ⟨M26, w27, H⟩ := x_lt_of H
    have h28 : x_tag M26 v0 = 7 + 10 := by rw [w27]; exact h24
    refine x_putI' 76 56 7 3 dX7_begin_76 lk_246 (by decide) (by decide) rfl (Or.inl rfl) (Or.inl rfl) h24 w27 ?_
    refine x_aload_n 79 0 dX7_begin_79 rfl rfl ?_
    refine x_iconst 80 (0 : Int32) dX7_begin_80 (by decide) ?_
    obtain ⟨M29, w30, H⟩ := x_lt_of H
    have h31 : x_tag M29 v0 = 7 + 10 := by rw [w30]; exact h28
    refine x_putI' 81 59 7 4 dX7_begin_81 lk_247 (by decide) (by decide) rfl (Or.inl rfl) (Or.inl rfl) h28 w30 ?_
    cases H
    exact x_vret 84 dX7_begin_84 rfl (Nat.le_of_ble_eq_true rfl) (Nat.le_of_ble_eq_true rfl) ⟨rfl, rfl⟩
  · replace H := x_ifn c25 H
    refine x_aload_n 55 0 dX7_begin_55 rfl rfl ?_
    refine x_getf 56 18 7 1 (.ref (x_r M v0 1)) dX7_begin_56 lk_244 (by decide) (by decide) rfl (fun _ => rfl) h24 ?_
    refine x_iload 59 5 dX7_begin_59 rfl ?_
    refine x_aload_n 61 3 dX7_begin_61 rfl rfl ?_
    refine x_iload 62 5 dX7_begin_62 rfl ?_
    obtain ⟨h32, H⟩ := x_ckp H
    obtain ⟨r34, M33, e35, H⟩ := x_bd_of H
    refine x_callV 64 50 6 [(.int v5)] [(.int v5), (.ref (x_r M v0 1))] dX7_begin_64 (ct_X6_intAt l e35) lk_753 lk_585 lk_586 (by decide) h32 lk_93 lk_587 ⟨cn_X6_intAt, (by decide), by decide⟩ rfl (Nat.le_of_ble_eq_true rfl) (Nat.le_of_ble_eq_true rfl) (Nat.le_of_ble_eq_true rfl) (x_ri ?_)
    exact t_X7_begin_c64 l hκ46 H

def lp_X7_begin_46 (n : Nat) : Nat → Nat → Int32 → XM → Option XM := x_rec (fun _ _ _ _ => none) (bd_X7_begin_46) n
theorem t_X7_begin_46 (l : Launch) {q : XM} : ∀ (n : Nat) (v0 : Nat) (v3 : Nat) (v5 : Int32) (M : XM), lp_X7_begin_46 n v0 v3 v5 M = some q → AW l m_X7_begin 4 0 0 (x_Rv q) 0 0 46 [some (.ref v0), none, none, some (.ref v3), none, some (.int v5)] [] M := by
  intro n
  induction n with
  | zero => intro v0 v3 v5 M H; cases H
  | succ n ih => intro v0 v3 v5 M H; exact tb_X7_begin_46 l ih H
def f_X7_begin_c10 (v0 : Nat) (v1 : Nat) (v3 : Nat) (v4 : Int32) (M : XM) : Option XM :=
  if x_tag M v1 = 4 + 10 then (if x_tag M v0 = 7 + 10 then (x_lt (x_wi M v0 5 (x_i M v1 2)) (fun M10 => x_lt (x_wi M10 v0 6 (x_i M10 v1 3)) (fun M14 => if x_tag M14 (x_r M14 v0 1) = 1 then (x_lt (x_wi M14 v0 2 (if (Int32.ofNat (x_len M14 (x_r M14 v0 1))) < v4 then (Int32.ofNat (x_len M14 (x_r M14 v0 1))) else v4)) (fun M19 => lp_X7_begin_46 x_fuel v0 v3 (0 : Int32) M19)) else none))) else none) else none
set_option maxRecDepth 20000 in
set_option maxHeartbeats 4000000 in
theorem t_X7_begin_c10 (l : Launch) {v0 : Nat} {v1 : Nat} {v3 : Nat} {v4 : Int32} {M : XM} {q : XM} (H : f_X7_begin_c10 v0 v1 v3 v4 M = some q) : AW l m_X7_begin 4 0 0 (x_Rv q) 0 0 13 [some (.ref v0), some (.ref v1), none, some (.ref v3), some (.int v4), none] [] M := by
  unfold f_X7_begin_c10 at H
  refine x_aload_n 13 0 dX7_begin_13 rfl rfl ?_
  refine x_aload_n 14 1 dX7_begin_14 rfl rfl ?_
  obtain ⟨h8, H⟩ := x_ckp H
  refine x_getf 15 32 4 2 (.int (x_i M v1 2)) dX7_begin_15 lk_163 (by decide) (by decide) rfl (fun _ => rfl) h8 ?_
  obtain ⟨h9, H⟩ := x_ckp H
  obtain ⟨M10, w11, H⟩ := x_lt_of H
  have h12 : x_tag M10 v1 = 4 + 10 := by rw [w11]; exact h8
  have h13 : x_tag M10 v0 = 7 + 10 := by rw [w11]; exact h9
  refine x_putI' 18 36 7 5 dX7_begin_18 lk_248 (by decide) (by decide) rfl (Or.inl rfl) (Or.inl rfl) h9 w11 ?_
  refine x_aload_n 21 0 dX7_begin_21 rfl rfl ?_
  refine x_aload_n 22 1 dX7_begin_22 rfl rfl ?_
  refine x_getf 23 37 4 3 (.int (x_i M10 v1 3)) dX7_begin_23 lk_169 (by decide) (by decide) rfl (fun _ => rfl) h12 ?_
  obtain ⟨M14, w15, H⟩ := x_lt_of H
  have h16 : x_tag M14 v1 = 4 + 10 := by rw [w15]; exact h12
  have h17 : x_tag M14 v0 = 7 + 10 := by rw [w15]; exact h13
  refine x_putI' 26 40 7 6 dX7_begin_26 lk_249 (by decide) (by decide) rfl (Or.inl rfl) (Or.inl rfl) h13 w15 ?_
  refine x_aload_n 29 0 dX7_begin_29 rfl rfl ?_
  refine x_iload 30 4 dX7_begin_30 rfl ?_
  refine x_aload_n 32 0 dX7_begin_32 rfl rfl ?_
  refine x_getf 33 18 7 1 (.ref (x_r M14 v0 1)) dX7_begin_33 lk_244 (by decide) (by decide) rfl (fun _ => rfl) h17 ?_
  obtain ⟨h18, H⟩ := x_ckp H
  refine x_alen 36 1 dX7_begin_36 h18 (by decide) ?_
  refine x_min 37 41 dX7_begin_37 lk_752 lk_561 lk_97 lk_562 rfl (Nat.le_of_ble_eq_true rfl) (by decide) (Nat.le_of_ble_eq_true rfl) (Nat.le_of_ble_eq_true rfl) ?_
  obtain ⟨M19, w20, H⟩ := x_lt_of H
  have h21 : x_tag M19 v1 = 4 + 10 := by rw [w20]; exact h16
  have h22 : x_tag M19 v0 = 7 + 10 := by rw [w20]; exact h17
  have h23 : x_tag M19 (x_r M14 v0 1) = 1 := by rw [w20]; exact h18
  refine x_putI' 40 47 7 2 dX7_begin_40 lk_245 (by decide) (by decide) rfl (Or.inl rfl) (Or.inl rfl) h17 w20 ?_
  refine x_iconst 43 (0 : Int32) dX7_begin_43 (by decide) ?_
  refine x_istore 44 5 [some (.ref v0), some (.ref v1), none, some (.ref v3), some (.int v4), some (.int (0 : Int32))] dX7_begin_44 rfl (Nat.le_of_ble_eq_true rfl) rfl ?_
  exact x_wk (le_s (le_n (le_s (le_s (le_n (le_s le_0)))))) (t_X7_begin_46 l _ _ _ _ _ H)

def f_X7_begin (v0 : Nat) (v1 : Nat) (v2 : Int32) (v3 : Nat) (v4 : Int32) (M : XM) : Option XM :=
  if x_tag M v0 = 7 + 10 then (if x_tag M v1 = 4 + 10 then (if x_at M (x_r M v1 0) 3 v2 = true then (if x_tag M (x_r M v0 0) = 2 + 10 then (x_bv (f_X2_becomeLike (x_r M v0 0) (x_r M (x_r M v1 0) v2.toNatClampNeg) M) (f_X7_begin_c10 v0 v1 v3 v4)) else none) else none) else none) else none
set_option maxRecDepth 20000 in
set_option maxHeartbeats 4000000 in
theorem t_X7_begin (l : Launch) {v0 : Nat} {v1 : Nat} {v2 : Int32} {v3 : Nat} {v4 : Int32} {M : XM} {q : XM} (H : f_X7_begin v0 v1 v2 v3 v4 M = some q) : AW l m_X7_begin 4 0 0 (x_Rv q) 0 0 0 [some (.ref v0), some (.ref v1), some (.int v2), some (.ref v3), some (.int v4), none] [] M := by
  unfold f_X7_begin at H
  refine x_aload_n 0 0 dX7_begin_0 rfl rfl ?_
  obtain ⟨h1, H⟩ := x_ckp H
  refine x_getf 1 12 7 0 (.ref (x_r M v0 0)) dX7_begin_1 lk_242 (by decide) (by decide) rfl (fun _ => rfl) h1 ?_
  refine x_aload_n 4 1 dX7_begin_4 rfl rfl ?_
  obtain ⟨h2, H⟩ := x_ckp H
  refine x_getf 5 22 4 0 (.ref (x_r M v1 0)) dX7_begin_5 lk_156 (by decide) (by decide) rfl (fun _ => rfl) h2 ?_
  refine x_iload_n 8 2 dX7_begin_8 rfl rfl ?_
  obtain ⟨h3, H⟩ := x_ckp H
  refine x_aald3 9 dX7_begin_9 h3 ?_
  obtain ⟨h4, H⟩ := x_ckp H
  obtain ⟨M5, e7, H⟩ := x_bv_of H
  refine x_callV 10 28 2 [(.ref (x_r M (x_r M v1 0) v2.toNatClampNeg))] [] dX7_begin_10 (ct_X2_becomeLike l e7) lk_751 lk_580 lk_581 (by decide) h4 lk_87 lk_582 ⟨cn_X2_becomeLike, (by decide), by decide⟩ rfl (Nat.le_of_ble_eq_true rfl) (Nat.le_of_ble_eq_true rfl) (Nat.le_of_ble_eq_true rfl) (x_rv ?_)
  exact x_wk (le_s (le_s (le_n (le_s (le_s (le_s le_0)))))) (t_X7_begin_c10 l H)

theorem ct_X7_begin (l : Launch) {v0 : Nat} {v1 : Nat} {v2 : Int32} {v3 : Nat} {v4 : Int32} {M : XM} {q : XM} (H : f_X7_begin v0 v1 v2 v3 v4 M = some q) : Ct l m_X7_begin 4 0 0 [(.ref v0), (.ref v1), (.int v2), (.ref v3), (.int v4)] M (x_Rv q) := x_met l m_X7_begin 4 0 0 [(.ref v0), (.ref v1), (.int v2), (.ref v3), (.int v4)] M (x_Rv q) _ rfl rfl (Nat.le_of_ble_eq_true rfl) (t_X7_begin l H)
theorem lk_132 : Cond.fieldLink RX7 62 RX2 "at" "I" ∈ x_TB := x_tb (k := 132) (by decide +kernel) rfl
theorem lk_758 : Cond.methodLink RX7 65 yX2_hear ∈ x_TB := x_tb (k := 758) (by decide +kernel) rfl
abbrev m_X7_step : XU := (yX7_step, cX7_step, 2, none)
theorem cn_X7_step : m_X7_step.1.cls ≠ "java/lang/invoke/MethodHandle" ∧ m_X7_step.1.cls ≠ "java/lang/invoke/VarHandle" ∧ (parseMethodDescriptor m_X7_step.1.desc).map (fun q => q.parameters.length) = some 0 := by decide +kernel
def f_X7_step_57 (v0 : Nat) (v1 : Int32) (M : XM) : Option XM :=
  if x_tag M v0 = 7 + 10 then (if x_tag M (x_r M v0 0) = 2 + 10 then (if (x_i M (x_r M v0 0) 2) < (x_i M v0 5) then (if v1 = 0 then (x_lt (x_wi M (x_r M v0 0) 2 ((x_i M (x_r M v0 0) 2) + (1 : Int32))) (fun M11 => some M11)) else (x_bv (f_X2_hear (x_r M v0 0) (x_i M v0 6) M) (fun M15 => some M15))) else (some M)) else none) else none
set_option maxRecDepth 20000 in
set_option maxHeartbeats 4000000 in
theorem t_X7_step_57 (l : Launch) {v0 : Nat} {v1 : Int32} {M : XM} {q : XM} (H : f_X7_step_57 v0 v1 M = some q) : AW l m_X7_step 3 0 0 (x_Rv q) 0 0 57 [some (.ref v0), some (.int v1)] [] M := by
  unfold f_X7_step_57 at H
  refine x_aload_n 57 0 dX7_step_57 rfl rfl ?_
  obtain ⟨h7, H⟩ := x_ckp H
  refine x_getf 58 12 7 0 (.ref (x_r M v0 0)) dX7_step_58 lk_242 (by decide) (by decide) rfl (fun _ => rfl) h7 ?_
  obtain ⟨h8, H⟩ := x_ckp H
  refine x_getf 61 62 2 2 (.int (x_i M (x_r M v0 0) 2)) dX7_step_61 lk_132 (by decide) (by decide) rfl (fun _ => rfl) h8 ?_
  refine x_aload_n 64 0 dX7_step_64 rfl rfl ?_
  refine x_getf 65 36 7 5 (.int (x_i M v0 5)) dX7_step_65 lk_248 (by decide) (by decide) rfl (fun _ => rfl) h7 ?_
  refine x_icmp_lt 68 72 dX7_step_68 (by decide) (fun c9 => ?_) (fun c9 => ?_)
  · replace H := x_ifp c9 H
    refine x_iload_n 72 1 dX7_step_72 rfl rfl ?_
    refine x_if_eq 73 90 dX7_step_73 (by decide) (fun c10 => ?_) (fun c10 => ?_)
    · replace H := x_ifp c10 H
      refine x_aload_n 90 0 dX7_step_90 rfl rfl ?_
      refine x_getf 91 12 7 0 (.ref (x_r M v0 0)) dX7_step_91 lk_242 (by decide) (by decide) rfl (fun _ => rfl) h7 ?_
      refine x_dup 94 dX7_step_94 rfl ?_
      refine x_getf 95 62 2 2 (.int (x_i M (x_r M v0 0) 2)) dX7_step_95 lk_132 (by decide) (by decide) rfl (fun _ => rfl) h8 ?_
      refine x_iconst 98 (1 : Int32) dX7_step_98 (by decide) ?_
      refine x_iadd 99 dX7_step_99 ?_
      obtain ⟨M11, w12, H⟩ := x_lt_of H
      have h13 : x_tag M11 v0 = 7 + 10 := by rw [w12]; exact h7
      have h14 : x_tag M11 (x_r M v0 0) = 2 + 10 := by rw [w12]; exact h8
      refine x_putI' 100 62 2 2 dX7_step_100 lk_132 (by decide) (by decide) rfl (Or.inl rfl) (Or.inl rfl) h8 w12 ?_
      cases H
      exact x_vret 103 dX7_step_103 rfl (Nat.le_of_ble_eq_true rfl) (Nat.le_of_ble_eq_true rfl) ⟨rfl, rfl⟩
    · replace H := x_ifn c10 H
      refine x_aload_n 76 0 dX7_step_76 rfl rfl ?_
      refine x_getf 77 12 7 0 (.ref (x_r M v0 0)) dX7_step_77 lk_242 (by decide) (by decide) rfl (fun _ => rfl) h7 ?_
      refine x_aload_n 80 0 dX7_step_80 rfl rfl ?_
      refine x_getf 81 40 7 6 (.int (x_i M v0 6)) dX7_step_81 lk_249 (by decide) (by decide) rfl (fun _ => rfl) h7 ?_
      obtain ⟨M15, e17, H⟩ := x_bv_of H
      refine x_callV 84 65 2 [(.int (x_i M v0 6))] [] dX7_step_84 (ct_X2_hear l e17) lk_758 lk_707 lk_708 (by decide) h8 lk_87 lk_709 ⟨cn_X2_hear, (by decide), by decide⟩ rfl (Nat.le_of_ble_eq_true rfl) (Nat.le_of_ble_eq_true rfl) (Nat.le_of_ble_eq_true rfl) (x_rv ?_)
      refine x_goto 87 103 dX7_step_87 (by decide) ?_
      cases H
      exact x_vret 103 dX7_step_103 rfl (Nat.le_of_ble_eq_true rfl) (Nat.le_of_ble_eq_true rfl) ⟨rfl, rfl⟩
  · replace H := x_ifn c9 H
    cases H
    exact x_vret 71 dX7_step_71 rfl (Nat.le_of_ble_eq_true rfl) (Nat.le_of_ble_eq_true rfl) ⟨rfl, rfl⟩

def f_X7_step_42 (v0 : Nat) (s0 : Int32) (M : XM) : Option XM :=
  if s0 = 0 then (f_X7_step_57 v0 s0 M) else (if x_tag M v0 = 7 + 10 then (x_lt (x_wi M v0 3 ((x_i M v0 3) + (1 : Int32))) (fun M19 => f_X7_step_57 v0 s0 M19)) else none)
set_option maxRecDepth 20000 in
set_option maxHeartbeats 4000000 in
theorem t_X7_step_42 (l : Launch) {v0 : Nat} {s0 : Int32} {M : XM} {q : XM} (H : f_X7_step_42 v0 s0 M = some q) : AW l m_X7_step 3 0 0 (x_Rv q) 0 0 42 [some (.ref v0), none] [(.int s0)] M := by
  unfold f_X7_step_42 at H
  refine x_istore_n 42 1 [some (.ref v0), some (.int s0)] dX7_step_42 rfl rfl (Nat.le_of_ble_eq_true rfl) rfl ?_
  refine x_iload_n 43 1 dX7_step_43 rfl rfl ?_
  refine x_if_eq 44 57 dX7_step_44 (by decide) (fun c6 => ?_) (fun c6 => ?_)
  · replace H := x_ifp c6 H
    exact t_X7_step_57 l H
  · replace H := x_ifn c6 H
    refine x_aload_n 47 0 dX7_step_47 rfl rfl ?_
    refine x_dup 48 dX7_step_48 rfl ?_
    obtain ⟨h18, H⟩ := x_ckp H
    refine x_getf 49 56 7 3 (.int (x_i M v0 3)) dX7_step_49 lk_246 (by decide) (by decide) rfl (fun _ => rfl) h18 ?_
    refine x_iconst 52 (1 : Int32) dX7_step_52 (by decide) ?_
    refine x_iadd 53 dX7_step_53 ?_
    obtain ⟨M19, w20, H⟩ := x_lt_of H
    have h21 : x_tag M19 v0 = 7 + 10 := by rw [w20]; exact h18
    refine x_putI' 54 56 7 3 dX7_step_54 lk_246 (by decide) (by decide) rfl (Or.inl rfl) (Or.inl rfl) h18 w20 ?_
    exact t_X7_step_57 l H

def f_X7_step_41 (v0 : Nat) (M : XM) : Option XM :=
  f_X7_step_42 v0 (0 : Int32) M
set_option maxRecDepth 20000 in
set_option maxHeartbeats 4000000 in
theorem t_X7_step_41 (l : Launch) {v0 : Nat} {M : XM} {q : XM} (H : f_X7_step_41 v0 M = some q) : AW l m_X7_step 3 0 0 (x_Rv q) 0 0 41 [some (.ref v0), none] [] M := by
  unfold f_X7_step_41 at H
  refine x_iconst 41 (0 : Int32) dX7_step_41 (by decide) ?_
  exact t_X7_step_42 l H

def f_X7_step (v0 : Nat) (M : XM) : Option XM :=
  if x_tag M v0 = 7 + 10 then (x_lt (x_wi M v0 4 ((x_i M v0 4) + (1 : Int32))) (fun M2 => if (x_i M2 v0 2) ≤ (x_i M2 v0 3) then (f_X7_step_41 v0 M2) else (if x_at M2 (x_r M2 v0 1) 1 (x_i M2 v0 3) = true then (if (x_i M2 (x_r M2 v0 1) (x_i M2 v0 3).toNatClampNeg) = (x_i M2 v0 4) then (f_X7_step_42 v0 (1 : Int32) M2) else (f_X7_step_41 v0 M2)) else none))) else none
set_option maxRecDepth 20000 in
set_option maxHeartbeats 4000000 in
theorem t_X7_step (l : Launch) {v0 : Nat} {M : XM} {q : XM} (H : f_X7_step v0 M = some q) : AW l m_X7_step 3 0 0 (x_Rv q) 0 0 0 [some (.ref v0), none] [] M := by
  unfold f_X7_step at H
  refine x_aload_n 0 0 dX7_step_0 rfl rfl ?_
  refine x_dup 1 dX7_step_1 rfl ?_
  obtain ⟨h1, H⟩ := x_ckp H
  refine x_getf 2 59 7 4 (.int (x_i M v0 4)) dX7_step_2 lk_247 (by decide) (by decide) rfl (fun _ => rfl) h1 ?_
  refine x_iconst 5 (1 : Int32) dX7_step_5 (by decide) ?_
  refine x_iadd 6 dX7_step_6 ?_
  obtain ⟨M2, w3, H⟩ := x_lt_of H
  have h4 : x_tag M2 v0 = 7 + 10 := by rw [w3]; exact h1
  refine x_putI' 7 59 7 4 dX7_step_7 lk_247 (by decide) (by decide) rfl (Or.inl rfl) (Or.inl rfl) h1 w3 ?_
  refine x_aload_n 10 0 dX7_step_10 rfl rfl ?_
  refine x_getf 11 56 7 3 (.int (x_i M2 v0 3)) dX7_step_11 lk_246 (by decide) (by decide) rfl (fun _ => rfl) h4 ?_
  refine x_aload_n 14 0 dX7_step_14 rfl rfl ?_
  refine x_getf 15 47 7 2 (.int (x_i M2 v0 2)) dX7_step_15 lk_245 (by decide) (by decide) rfl (fun _ => rfl) h4 ?_
  refine x_icmp_ge 18 41 dX7_step_18 (by decide) (fun c5 => ?_) (fun c5 => ?_)
  · replace H := x_ifp c5 H
    exact t_X7_step_41 l H
  · replace H := x_ifn c5 H
    refine x_aload_n 21 0 dX7_step_21 rfl rfl ?_
    refine x_getf 22 18 7 1 (.ref (x_r M2 v0 1)) dX7_step_22 lk_244 (by decide) (by decide) rfl (fun _ => rfl) h4 ?_
    refine x_aload_n 25 0 dX7_step_25 rfl rfl ?_
    refine x_getf 26 56 7 3 (.int (x_i M2 v0 3)) dX7_step_26 lk_246 (by decide) (by decide) rfl (fun _ => rfl) h4 ?_
    obtain ⟨h22, H⟩ := x_ckp H
    refine x_iald 29 dX7_step_29 h22 ?_
    refine x_aload_n 30 0 dX7_step_30 rfl rfl ?_
    refine x_getf 31 59 7 4 (.int (x_i M2 v0 4)) dX7_step_31 lk_247 (by decide) (by decide) rfl (fun _ => rfl) h4 ?_
    refine x_icmp_ne 34 41 dX7_step_34 (by decide) (fun c23 => ?_) (fun c23 => ?_)
    · replace H := x_ifn c23 H
      exact t_X7_step_41 l H
    · replace H := x_ifp c23 H
      refine x_iconst 37 (1 : Int32) dX7_step_37 (by decide) ?_
      refine x_goto 38 42 dX7_step_38 (by decide) ?_
      exact t_X7_step_42 l H

theorem ct_X7_step (l : Launch) {v0 : Nat} {M : XM} {q : XM} (H : f_X7_step v0 M = some q) : Ct l m_X7_step 3 0 0 [(.ref v0)] M (x_Rv q) := x_met l m_X7_step 3 0 0 [(.ref v0)] M (x_Rv q) _ rfl rfl (Nat.le_of_ble_eq_true rfl) (t_X7_step l H)
theorem lk_89 : Cond.initialized RX7 ∈ x_TB := x_tb (k := 89) (by decide +kernel) rfl
theorem lk_757 : Cond.code yX7_step cX7_step 2 none ∈ x_TB := x_tb (k := 757) (by decide +kernel) rfl
theorem lk_771 : Cond.methodLink RX7 69 yX7_step ∈ x_TB := x_tb (k := 771) (by decide +kernel) rfl
theorem lk_756 : Cond.selects RX7 yX7_step yX7_step ∈ x_TB := x_tb (k := 756) (by decide +kernel) rfl
theorem lk_755 : Cond.instanceMethod yX7_step ∈ x_TB := x_tb (k := 755) (by decide +kernel) rfl
abbrev m_X7_untilThrough : XU := (yX7_untilThrough, cX7_untilThrough, 2, (some .int))
theorem cn_X7_untilThrough : m_X7_untilThrough.1.cls ≠ "java/lang/invoke/MethodHandle" ∧ m_X7_untilThrough.1.cls ≠ "java/lang/invoke/VarHandle" ∧ (parseMethodDescriptor m_X7_untilThrough.1.desc).map (fun q => q.parameters.length) = some 0 := by decide +kernel
def f_X7_untilThrough_c26 (κ2 : Nat → Int32 → XM → Option (Int32 × XM)) (v0 : Nat) (v1 : Int32) (M : XM) : Option (Int32 × XM) :=
  κ2 v0 (v1 + (1 : Int32)) M
set_option maxRecDepth 20000 in
set_option maxHeartbeats 4000000 in
theorem t_X7_untilThrough_c26 (l : Launch) {κ2 : Nat → Int32 → XM → Option (Int32 × XM)} {v0 : Nat} {v1 : Int32} {M : XM} {q : Int32 × XM} (hκ2 : ∀ (v0 : Nat) (v1 : Int32) (M : XM), κ2 v0 v1 M = some q → AW l m_X7_untilThrough 4 0 0 (x_Ri q) 0 0 2 [some (.ref v0), some (.int v1)] [] M) (H : f_X7_untilThrough_c26 κ2 v0 v1 M = some q) : AW l m_X7_untilThrough 4 0 0 (x_Ri q) 0 0 29 [some (.ref v0), some (.int v1)] [] M := by
  unfold f_X7_untilThrough_c26 at H
  refine x_iinc 29 1 (v1 + (1 : Int32)) [some (.ref v0), some (.int (v1 + (1 : Int32)))] dX7_untilThrough_29 rfl (congrArg (fun z : Int32 => v1 + z) (show Int32.ofInt (1) = (1 : Int32) by decide)) rfl (Nat.le_of_ble_eq_true rfl) rfl ?_
  refine x_goto 32 2 dX7_untilThrough_32 (by decide) ?_
  exact hκ2 _ _ _ H

def bd_X7_untilThrough_2 (κ2 : Nat → Int32 → XM → Option (Int32 × XM)) (v0 : Nat) (v1 : Int32) (M : XM) : Option (Int32 × XM) :=
  if (400 : Int32) < v1 then (some ((-1 : Int32), M)) else (if x_tag M v0 = 7 + 10 then (if x_tag M (x_r M v0 0) = 2 + 10 then (if (x_i M (x_r M v0 0) 2) < (x_i M v0 5) then (x_bv (f_X7_step v0 M) (f_X7_untilThrough_c26 κ2 v0 v1)) else (some (v1, M))) else none) else none)
set_option maxRecDepth 20000 in
set_option maxHeartbeats 4000000 in
theorem tb_X7_untilThrough_2 (l : Launch) {κ2 : Nat → Int32 → XM → Option (Int32 × XM)} {v0 : Nat} {v1 : Int32} {M : XM} {q : Int32 × XM} (hκ2 : ∀ (v0 : Nat) (v1 : Int32) (M : XM), κ2 v0 v1 M = some q → AW l m_X7_untilThrough 4 0 0 (x_Ri q) 0 0 2 [some (.ref v0), some (.int v1)] [] M) (H : bd_X7_untilThrough_2 κ2 v0 v1 M = some q) : AW l m_X7_untilThrough 4 0 0 (x_Ri q) 0 0 2 [some (.ref v0), some (.int v1)] [] M := by
  unfold bd_X7_untilThrough_2 at H
  refine x_iload_n 2 1 dX7_untilThrough_2 rfl rfl ?_
  refine x_sipush 3 (400 : Int32) dX7_untilThrough_3 (by decide) ?_
  refine x_icmp_gt 6 35 dX7_untilThrough_6 (by decide) (fun c1 => ?_) (fun c1 => ?_)
  · replace H := x_ifp c1 H
    refine x_iconst 35 (-1 : Int32) dX7_untilThrough_35 (by decide) ?_
    cases H
    exact x_iret 36 dX7_untilThrough_36 .int rfl rfl (Nat.le_of_ble_eq_true rfl) (Nat.le_of_ble_eq_true rfl) ⟨rfl, rfl⟩
  · replace H := x_ifn c1 H
    refine x_aload_n 9 0 dX7_untilThrough_9 rfl rfl ?_
    obtain ⟨h2, H⟩ := x_ckp H
    refine x_getf 10 12 7 0 (.ref (x_r M v0 0)) dX7_untilThrough_10 lk_242 (by decide) (by decide) rfl (fun _ => rfl) h2 ?_
    obtain ⟨h3, H⟩ := x_ckp H
    refine x_getf 13 62 2 2 (.int (x_i M (x_r M v0 0) 2)) dX7_untilThrough_13 lk_132 (by decide) (by decide) rfl (fun _ => rfl) h3 ?_
    refine x_aload_n 16 0 dX7_untilThrough_16 rfl rfl ?_
    refine x_getf 17 36 7 5 (.int (x_i M v0 5)) dX7_untilThrough_17 lk_248 (by decide) (by decide) rfl (fun _ => rfl) h2 ?_
    refine x_icmp_lt 20 25 dX7_untilThrough_20 (by decide) (fun c4 => ?_) (fun c4 => ?_)
    · replace H := x_ifp c4 H
      refine x_aload_n 25 0 dX7_untilThrough_25 rfl rfl ?_
      obtain ⟨M5, e7, H⟩ := x_bv_of H
      refine x_callV 26 69 7 [] [] dX7_untilThrough_26 (ct_X7_step l e7) lk_771 lk_755 lk_756 (by decide) h2 lk_89 lk_757 ⟨cn_X7_step, (by decide), by decide⟩ rfl (Nat.le_of_ble_eq_true rfl) (Nat.le_of_ble_eq_true rfl) (Nat.le_of_ble_eq_true rfl) (x_rv ?_)
      exact t_X7_untilThrough_c26 l hκ2 H
    · replace H := x_ifn c4 H
      refine x_iload_n 23 1 dX7_untilThrough_23 rfl rfl ?_
      cases H
      exact x_iret 24 dX7_untilThrough_24 .int rfl rfl (Nat.le_of_ble_eq_true rfl) (Nat.le_of_ble_eq_true rfl) ⟨rfl, rfl⟩

def lp_X7_untilThrough_2 (n : Nat) : Nat → Int32 → XM → Option (Int32 × XM) := x_rec (fun _ _ _ => none) (bd_X7_untilThrough_2) n
theorem t_X7_untilThrough_2 (l : Launch) {q : Int32 × XM} : ∀ (n : Nat) (v0 : Nat) (v1 : Int32) (M : XM), lp_X7_untilThrough_2 n v0 v1 M = some q → AW l m_X7_untilThrough 4 0 0 (x_Ri q) 0 0 2 [some (.ref v0), some (.int v1)] [] M := by
  intro n
  induction n with
  | zero => intro v0 v1 M H; cases H
  | succ n ih => intro v0 v1 M H; exact tb_X7_untilThrough_2 l ih H
def f_X7_untilThrough (v0 : Nat) (M : XM) : Option (Int32 × XM) :=
  lp_X7_untilThrough_2 x_fuel v0 (0 : Int32) M
set_option maxRecDepth 20000 in
set_option maxHeartbeats 4000000 in
theorem t_X7_untilThrough (l : Launch) {v0 : Nat} {M : XM} {q : Int32 × XM} (H : f_X7_untilThrough v0 M = some q) : AW l m_X7_untilThrough 4 0 0 (x_Ri q) 0 0 0 [some (.ref v0), none] [] M := by
  unfold f_X7_untilThrough at H
  refine x_iconst 0 (0 : Int32) dX7_untilThrough_0 (by decide) ?_
  refine x_istore_n 1 1 [some (.ref v0), some (.int (0 : Int32))] dX7_untilThrough_1 rfl rfl (Nat.le_of_ble_eq_true rfl) rfl ?_
  exact t_X7_untilThrough_2 l _ _ _ _ H

theorem ct_X7_untilThrough (l : Launch) {v0 : Nat} {M : XM} {q : Int32 × XM} (H : f_X7_untilThrough v0 M = some q) : Ct l m_X7_untilThrough 4 0 0 [(.ref v0)] M (x_Ri q) := x_met l m_X7_untilThrough 4 0 0 [(.ref v0)] M (x_Ri q) _ rfl rfl (Nat.le_of_ble_eq_true rfl) (t_X7_untilThrough l H)
theorem lk_107 : Cond.methodLink RX8 1 Lib.objectInit ∈ x_TB := x_tb (k := 107) (by decide +kernel) rfl
theorem lk_110 : Cond.classLink RX8 7 RX4 ∈ x_TB := x_tb (k := 110) (by decide +kernel) rfl
theorem lk_112 : Cond.methodLink RX8 9 yX4_init ∈ x_TB := x_tb (k := 112) (by decide +kernel) rfl
theorem lk_360 : Cond.fieldLink RX8 10 RX8 "now" "LWhatDidYouSay$Room;" ∈ x_TB := x_tb (k := 360) (by decide +kernel) rfl
theorem lk_361 : Cond.fieldLink RX8 16 RX8 "kept" "LWhatDidYouSay$Room;" ∈ x_TB := x_tb (k := 361) (by decide +kernel) rfl
theorem lk_206 : Cond.classLink RX8 19 RX5 ∈ x_TB := x_tb (k := 206) (by decide +kernel) rfl
theorem lk_207 : Cond.instantiable RX5 5 ∈ x_TB := x_tb (k := 207) (by decide +kernel) rfl
theorem lk_210 : Cond.code yX5_init cX5_init 1 none ∈ x_TB := x_tb (k := 210) (by decide +kernel) rfl
theorem lk_209 : Cond.instanceMethod yX5_init ∈ x_TB := x_tb (k := 209) (by decide +kernel) rfl
theorem lk_363 : Cond.fieldLink RX8 22 RX8 "reader" "LWhatDidYouSay$RoomReader;" ∈ x_TB := x_tb (k := 363) (by decide +kernel) rfl
theorem lk_364 : Cond.fieldLink RX8 26 RX8 "faultPlace" "I" ∈ x_TB := x_tb (k := 364) (by decide +kernel) rfl
theorem lk_232 : Cond.classLink RX8 30 RX6 ∈ x_TB := x_tb (k := 232) (by decide +kernel) rfl
theorem lk_365 : Cond.fieldLink RX8 32 RX8 "shelves" "[LWhatDidYouSay$Shelf;" ∈ x_TB := x_tb (k := 365) (by decide +kernel) rfl
theorem lk_366 : Cond.fieldLink RX8 36 RX8 "refused" "[I" ∈ x_TB := x_tb (k := 366) (by decide +kernel) rfl
theorem lk_234 : Cond.classLink RX8 40 RX7 ∈ x_TB := x_tb (k := 234) (by decide +kernel) rfl
theorem lk_235 : Cond.instantiable RX7 7 ∈ x_TB := x_tb (k := 235) (by decide +kernel) rfl
theorem lk_238 : Cond.code yX7_init cX7_init 1 none ∈ x_TB := x_tb (k := 238) (by decide +kernel) rfl
theorem lk_237 : Cond.instanceMethod yX7_init ∈ x_TB := x_tb (k := 237) (by decide +kernel) rfl
theorem lk_367 : Cond.fieldLink RX8 43 RX8 "walk" "LWhatDidYouSay$Walk;" ∈ x_TB := x_tb (k := 367) (by decide +kernel) rfl
theorem lk_265 : Cond.classLink RX8 47 RX1 ∈ x_TB := x_tb (k := 265) (by decide +kernel) rfl
theorem lk_266 : Cond.instantiable RX1 9 ∈ x_TB := x_tb (k := 266) (by decide +kernel) rfl
theorem lk_269 : Cond.code yX1_init cX1_init 1 none ∈ x_TB := x_tb (k := 269) (by decide +kernel) rfl
theorem lk_268 : Cond.instanceMethod yX1_init ∈ x_TB := x_tb (k := 268) (by decide +kernel) rfl
theorem lk_368 : Cond.fieldLink RX8 50 RX8 "chances" "LWhatDidYouSay$Chances;" ∈ x_TB := x_tb (k := 368) (by decide +kernel) rfl
theorem lk_299 : Cond.classLink RX8 54 RX3 ∈ x_TB := x_tb (k := 299) (by decide +kernel) rfl
theorem lk_300 : Cond.instantiable RX3 2 ∈ x_TB := x_tb (k := 300) (by decide +kernel) rfl
theorem lk_303 : Cond.code yX3_init cX3_init 1 none ∈ x_TB := x_tb (k := 303) (by decide +kernel) rfl
theorem lk_302 : Cond.instanceMethod yX3_init ∈ x_TB := x_tb (k := 302) (by decide +kernel) rfl
theorem lk_369 : Cond.fieldLink RX8 57 RX8 "delays" "LWhatDidYouSay$Delays;" ∈ x_TB := x_tb (k := 369) (by decide +kernel) rfl
theorem lk_312 : Cond.classLink RX8 61 RX2 ∈ x_TB := x_tb (k := 312) (by decide +kernel) rfl
theorem lk_370 : Cond.fieldLink RX8 64 RX8 "listener" "LWhatDidYouSay$Counter;" ∈ x_TB := x_tb (k := 370) (by decide +kernel) rfl
theorem lk_371 : Cond.fieldLink RX8 68 RX8 "ownOffs" "[I" ∈ x_TB := x_tb (k := 371) (by decide +kernel) rfl
theorem lk_372 : Cond.fieldLink RX8 71 RX8 "otherOffs" "[I" ∈ x_TB := x_tb (k := 372) (by decide +kernel) rfl
theorem lk_314 : Cond.classLink RX8 74 RX0 ∈ x_TB := x_tb (k := 314) (by decide +kernel) rfl
theorem lk_315 : Cond.instantiable RX0 5 ∈ x_TB := x_tb (k := 315) (by decide +kernel) rfl
theorem lk_318 : Cond.code yX0_init cX0_init 1 none ∈ x_TB := x_tb (k := 318) (by decide +kernel) rfl
theorem lk_317 : Cond.instanceMethod yX0_init ∈ x_TB := x_tb (k := 317) (by decide +kernel) rfl
theorem lk_373 : Cond.fieldLink RX8 77 RX8 "acts" "LWhatDidYouSay$Acts;" ∈ x_TB := x_tb (k := 373) (by decide +kernel) rfl
theorem lk_337 : Cond.instantiable RX6 4 ∈ x_TB := x_tb (k := 337) (by decide +kernel) rfl
theorem lk_340 : Cond.code yX6_init cX6_init 1 none ∈ x_TB := x_tb (k := 340) (by decide +kernel) rfl
theorem lk_339 : Cond.instanceMethod yX6_init ∈ x_TB := x_tb (k := 339) (by decide +kernel) rfl
abbrev m_X8_init : XU := (yX8_init, cX8_init, 2, none)
theorem cn_X8_init : m_X8_init.1.cls ≠ "java/lang/invoke/MethodHandle" ∧ m_X8_init.1.cls ≠ "java/lang/invoke/VarHandle" ∧ (parseMethodDescriptor m_X8_init.1.desc).map (fun q => q.parameters.length) = some 0 := by decide +kernel
set_option maxRecDepth 20000 in
def f_X8_init (v0 : Nat) (M : XM) : Option XM :=
  if x_tag M v0 = 8 + 10 then (x_al M (4 + 10) 0 (fun a3 M2 => x_bv (f_X4_init a3 M2) (fun M7 => if x_tag M7 v0 = 8 + 10 then (x_lt (x_wr M7 v0 0 a3) (fun M11 => x_al M11 (4 + 10) 0 (fun a15 M14 => x_bv (f_X4_init a15 M14) (fun M19 => if x_tag M19 v0 = 8 + 10 then (x_lt (x_wr M19 v0 1 a15) (fun M23 => x_al M23 (5 + 10) 0 (fun a27 M26 => x_bv (f_X5_init a27 M26) (fun M31 => if x_tag M31 v0 = 8 + 10 then (x_lt (x_wr M31 v0 3 a27) (fun M35 => x_lt (x_wi M35 v0 4 (-1 : Int32)) (fun M38 => x_al M38 4 8 (fun a42 M41 => if x_tag M41 v0 = 8 + 10 then (x_lt (x_wr M41 v0 5 a42) (fun M47 => x_al M47 1 8 (fun a52 M51 => if x_tag M51 v0 = 8 + 10 then (x_lt (x_wr M51 v0 6 a52) (fun M57 => x_al M57 (7 + 10) 0 (fun a62 M61 => x_bv (f_X7_init a62 M61) (fun M66 => if x_tag M66 v0 = 8 + 10 then (x_lt (x_wr M66 v0 7 a62) (fun M70 => x_al M70 (1 + 10) 0 (fun a74 M73 => x_bv (f_X1_init a74 M73) (fun M78 => if x_tag M78 v0 = 8 + 10 then (x_lt (x_wr M78 v0 8 a74) (fun M82 => x_al M82 (3 + 10) 0 (fun a86 M85 => x_bv (f_X3_init a86 M85) (fun M90 => if x_tag M90 v0 = 8 + 10 then (x_lt (x_wr M90 v0 9 a86) (fun M94 => x_al M94 (2 + 10) 0 (fun a98 M97 => x_bv (f_X2_init a98 M97) (fun M102 => if x_tag M102 v0 = 8 + 10 then (x_lt (x_wr M102 v0 10 a98) (fun M106 => x_al M106 1 201 (fun a110 M109 => if x_tag M109 v0 = 8 + 10 then (x_lt (x_wr M109 v0 11 a110) (fun M115 => x_al M115 1 201 (fun a120 M119 => if x_tag M119 v0 = 8 + 10 then (x_lt (x_wr M119 v0 12 a120) (fun M125 => x_al M125 (0 + 10) 0 (fun a130 M129 => x_bv (f_X0_init a130 M129) (fun M134 => if x_tag M134 v0 = 8 + 10 then (x_lt (x_wr M134 v0 13 a130) (fun M138 => if x_tag M138 (x_r M138 v0 5) = 4 then (if (Int32.ofNat (x_len M138 (x_r M138 v0 5))) ≤ (0 : Int32) then (some M138) else (x_al M138 (6 + 10) 0 (fun a144 M143 => x_bv (f_X6_init a144 M143) (fun M148 => if x_at M148 (x_r M138 v0 5) 4 (0 : Int32) = true then (if x_tag M148 a144 = 6 + 10 then (x_lt (x_wr M148 (x_r M138 v0 5) (0 : Int32).toNatClampNeg a144) (fun M153 => if x_tag M153 v0 = 8 + 10 then (if x_tag M153 (x_r M153 v0 5) = 4 then (if (Int32.ofNat (x_len M153 (x_r M153 v0 5))) ≤ ((0 : Int32) + (1 : Int32)) then (some M153) else (x_al M153 (6 + 10) 0 (fun a162 M161 => x_bv (f_X6_init a162 M161) (fun M166 => if x_at M166 (x_r M153 v0 5) 4 ((0 : Int32) + (1 : Int32)) = true then (if x_tag M166 a162 = 6 + 10 then (x_lt (x_wr M166 (x_r M153 v0 5) ((0 : Int32) + (1 : Int32)).toNatClampNeg a162) (fun M171 => if x_tag M171 v0 = 8 + 10 then (if x_tag M171 (x_r M171 v0 5) = 4 then (if (Int32.ofNat (x_len M171 (x_r M171 v0 5))) ≤ (((0 : Int32) + (1 : Int32)) + (1 : Int32)) then (some M171) else (x_al M171 (6 + 10) 0 (fun a180 M179 => x_bv (f_X6_init a180 M179) (fun M184 => if x_at M184 (x_r M171 v0 5) 4 (((0 : Int32) + (1 : Int32)) + (1 : Int32)) = true then (if x_tag M184 a180 = 6 + 10 then (x_lt (x_wr M184 (x_r M171 v0 5) (((0 : Int32) + (1 : Int32)) + (1 : Int32)).toNatClampNeg a180) (fun M189 => if x_tag M189 v0 = 8 + 10 then (if x_tag M189 (x_r M189 v0 5) = 4 then (if (Int32.ofNat (x_len M189 (x_r M189 v0 5))) ≤ ((((0 : Int32) + (1 : Int32)) + (1 : Int32)) + (1 : Int32)) then (some M189) else (x_al M189 (6 + 10) 0 (fun a198 M197 => x_bv (f_X6_init a198 M197) (fun M202 => if x_at M202 (x_r M189 v0 5) 4 ((((0 : Int32) + (1 : Int32)) + (1 : Int32)) + (1 : Int32)) = true then (if x_tag M202 a198 = 6 + 10 then (x_lt (x_wr M202 (x_r M189 v0 5) ((((0 : Int32) + (1 : Int32)) + (1 : Int32)) + (1 : Int32)).toNatClampNeg a198) (fun M207 => if x_tag M207 v0 = 8 + 10 then (if x_tag M207 (x_r M207 v0 5) = 4 then (if (Int32.ofNat (x_len M207 (x_r M207 v0 5))) ≤ (((((0 : Int32) + (1 : Int32)) + (1 : Int32)) + (1 : Int32)) + (1 : Int32)) then (some M207) else (x_al M207 (6 + 10) 0 (fun a216 M215 => x_bv (f_X6_init a216 M215) (fun M220 => if x_at M220 (x_r M207 v0 5) 4 (((((0 : Int32) + (1 : Int32)) + (1 : Int32)) + (1 : Int32)) + (1 : Int32)) = true then (if x_tag M220 a216 = 6 + 10 then (x_lt (x_wr M220 (x_r M207 v0 5) (((((0 : Int32) + (1 : Int32)) + (1 : Int32)) + (1 : Int32)) + (1 : Int32)).toNatClampNeg a216) (fun M225 => if x_tag M225 v0 = 8 + 10 then (if x_tag M225 (x_r M225 v0 5) = 4 then (if (Int32.ofNat (x_len M225 (x_r M225 v0 5))) ≤ ((((((0 : Int32) + (1 : Int32)) + (1 : Int32)) + (1 : Int32)) + (1 : Int32)) + (1 : Int32)) then (some M225) else (x_al M225 (6 + 10) 0 (fun a234 M233 => x_bv (f_X6_init a234 M233) (fun M238 => if x_at M238 (x_r M225 v0 5) 4 ((((((0 : Int32) + (1 : Int32)) + (1 : Int32)) + (1 : Int32)) + (1 : Int32)) + (1 : Int32)) = true then (if x_tag M238 a234 = 6 + 10 then (x_lt (x_wr M238 (x_r M225 v0 5) ((((((0 : Int32) + (1 : Int32)) + (1 : Int32)) + (1 : Int32)) + (1 : Int32)) + (1 : Int32)).toNatClampNeg a234) (fun M243 => if x_tag M243 v0 = 8 + 10 then (if x_tag M243 (x_r M243 v0 5) = 4 then (if (Int32.ofNat (x_len M243 (x_r M243 v0 5))) ≤ (((((((0 : Int32) + (1 : Int32)) + (1 : Int32)) + (1 : Int32)) + (1 : Int32)) + (1 : Int32)) + (1 : Int32)) then (some M243) else (x_al M243 (6 + 10) 0 (fun a252 M251 => x_bv (f_X6_init a252 M251) (fun M256 => if x_at M256 (x_r M243 v0 5) 4 (((((((0 : Int32) + (1 : Int32)) + (1 : Int32)) + (1 : Int32)) + (1 : Int32)) + (1 : Int32)) + (1 : Int32)) = true then (if x_tag M256 a252 = 6 + 10 then (x_lt (x_wr M256 (x_r M243 v0 5) (((((((0 : Int32) + (1 : Int32)) + (1 : Int32)) + (1 : Int32)) + (1 : Int32)) + (1 : Int32)) + (1 : Int32)).toNatClampNeg a252) (fun M261 => if x_tag M261 v0 = 8 + 10 then (if x_tag M261 (x_r M261 v0 5) = 4 then (if (Int32.ofNat (x_len M261 (x_r M261 v0 5))) ≤ ((((((((0 : Int32) + (1 : Int32)) + (1 : Int32)) + (1 : Int32)) + (1 : Int32)) + (1 : Int32)) + (1 : Int32)) + (1 : Int32)) then (some M261) else (x_al M261 (6 + 10) 0 (fun a270 M269 => x_bv (f_X6_init a270 M269) (fun M274 => if x_at M274 (x_r M261 v0 5) 4 ((((((((0 : Int32) + (1 : Int32)) + (1 : Int32)) + (1 : Int32)) + (1 : Int32)) + (1 : Int32)) + (1 : Int32)) + (1 : Int32)) = true then (if x_tag M274 a270 = 6 + 10 then (x_lt (x_wr M274 (x_r M261 v0 5) ((((((((0 : Int32) + (1 : Int32)) + (1 : Int32)) + (1 : Int32)) + (1 : Int32)) + (1 : Int32)) + (1 : Int32)) + (1 : Int32)).toNatClampNeg a270) (fun M279 => if x_tag M279 v0 = 8 + 10 then (if x_tag M279 (x_r M279 v0 5) = 4 then (if (Int32.ofNat (x_len M279 (x_r M279 v0 5))) ≤ (((((((((0 : Int32) + (1 : Int32)) + (1 : Int32)) + (1 : Int32)) + (1 : Int32)) + (1 : Int32)) + (1 : Int32)) + (1 : Int32)) + (1 : Int32)) then (some M279) else (x_al M279 (6 + 10) 0 (fun a288 M287 => x_bv (f_X6_init a288 M287) (fun M292 => if x_at M292 (x_r M279 v0 5) 4 (((((((((0 : Int32) + (1 : Int32)) + (1 : Int32)) + (1 : Int32)) + (1 : Int32)) + (1 : Int32)) + (1 : Int32)) + (1 : Int32)) + (1 : Int32)) = true then (if x_tag M292 a288 = 6 + 10 then (x_lt (x_wr M292 (x_r M279 v0 5) (((((((((0 : Int32) + (1 : Int32)) + (1 : Int32)) + (1 : Int32)) + (1 : Int32)) + (1 : Int32)) + (1 : Int32)) + (1 : Int32)) + (1 : Int32)).toNatClampNeg a288) (fun M297 => none)) else none) else none)))) else none) else none)) else none) else none)))) else none) else none)) else none) else none)))) else none) else none)) else none) else none)))) else none) else none)) else none) else none)))) else none) else none)) else none) else none)))) else none) else none)) else none) else none)))) else none) else none)) else none) else none)))) else none) else none)) else none) else none)))) else none)) else none)))) else none))) else none))) else none)))) else none)))) else none)))) else none)))) else none))) else none)))) else none)))) else none)))) else none))) else none
set_option maxRecDepth 20000 in
set_option maxHeartbeats 4000000 in
theorem t_X8_init (l : Launch) {v0 : Nat} {M : XM} {q : XM} (H : f_X8_init v0 M = some q) : AW l m_X8_init 4 67 8731 (x_Rv q) 0 0 0 [some (.ref v0), none] [] M := by
  unfold f_X8_init at H
  refine x_aload_n 0 0 dX8_init_0 rfl rfl ?_
  obtain ⟨h1, H⟩ := x_ckp H
  refine x_objInit 1 1 dX8_init_1 lk_107 lk_108 lk_109 h1 rfl (Nat.le_of_ble_eq_true rfl) (by decide) ?_
  refine x_aload_n 4 0 dX8_init_4 rfl rfl ?_
  obtain ⟨a3, M2, w4, w5, H⟩ := x_al_of H
  refine x_newc' 5 7 4 dX8_init_5 (by decide) lk_110 lk_111 lk_86 (Nat.le_of_ble_eq_true rfl) (Nat.le_of_ble_eq_true rfl) w4 w5 ?_
  have h6 : x_tag M2 a3 = 4 + 10 := x_al_tag w4 w5
  change AW _ _ _ _ _ _ 1 10 _ _ _ _
  refine x_dup 8 dX8_init_8 rfl ?_
  obtain ⟨M7, e9, H⟩ := x_bv_of H
  refine x_callI 9 9 [] [(.ref a3), (.ref v0)] dX8_init_9 (ct_X4_init l e9) lk_112 rfl rfl lk_113 h6 lk_86 lk_114 ⟨cn_X4_init, (by decide), by decide⟩ rfl (Nat.le_of_ble_eq_true rfl) (Nat.le_of_ble_eq_true rfl) (Nat.le_of_ble_eq_true rfl) (x_rv ?_)
  change AW _ _ _ _ _ _ 10 59 _ _ _ _
  obtain ⟨h10, H⟩ := x_ckp H
  obtain ⟨M11, w12, H⟩ := x_lt_of H
  have h13 : x_tag M11 v0 = 8 + 10 := by rw [w12]; exact h10
  refine x_putR' 12 10 8 0 dX8_init_12 lk_360 (by decide) (by decide) rfl (Or.inl ⟨_, rfl⟩) (Or.inr ⟨rfl, rfl⟩) h10 w12 ?_
  refine x_aload_n 15 0 dX8_init_15 rfl rfl ?_
  obtain ⟨a15, M14, w16, w17, H⟩ := x_al_of H
  refine x_newc' 16 7 4 dX8_init_16 (by decide) lk_110 lk_111 lk_86 (Nat.le_of_ble_eq_true rfl) (Nat.le_of_ble_eq_true rfl) w16 w17 ?_
  have h18 : x_tag M14 a15 = 4 + 10 := x_al_tag w16 w17
  change AW _ _ _ _ _ _ 11 69 _ _ _ _
  refine x_dup 19 dX8_init_19 rfl ?_
  obtain ⟨M19, e21, H⟩ := x_bv_of H
  refine x_callI 20 9 [] [(.ref a15), (.ref v0)] dX8_init_20 (ct_X4_init l e21) lk_112 rfl rfl lk_113 h18 lk_86 lk_114 ⟨cn_X4_init, (by decide), by decide⟩ rfl (Nat.le_of_ble_eq_true rfl) (Nat.le_of_ble_eq_true rfl) (Nat.le_of_ble_eq_true rfl) (x_rv ?_)
  change AW _ _ _ _ _ _ 20 118 _ _ _ _
  obtain ⟨h22, H⟩ := x_ckp H
  obtain ⟨M23, w24, H⟩ := x_lt_of H
  have h25 : x_tag M23 v0 = 8 + 10 := by rw [w24]; exact h22
  refine x_putR' 23 16 8 1 dX8_init_23 lk_361 (by decide) (by decide) rfl (Or.inl ⟨_, rfl⟩) (Or.inr ⟨rfl, rfl⟩) h22 w24 ?_
  refine x_aload_n 26 0 dX8_init_26 rfl rfl ?_
  obtain ⟨a27, M26, w28, w29, H⟩ := x_al_of H
  refine x_newc' 27 19 5 dX8_init_27 (by decide) lk_206 lk_207 lk_88 (Nat.le_of_ble_eq_true rfl) (Nat.le_of_ble_eq_true rfl) w28 w29 ?_
  have h30 : x_tag M26 a27 = 5 + 10 := x_al_tag w28 w29
  change AW _ _ _ _ _ _ 21 123 _ _ _ _
  refine x_dup 30 dX8_init_30 rfl ?_
  obtain ⟨M31, e33, H⟩ := x_bv_of H
  refine x_callIN 31 21 [] [(.ref a27), (.ref v0)] dX8_init_31 (ct_X5_init l e33) (List.mem_of_getElem? (i := 1) rfl) rfl rfl lk_209 h30 lk_88 lk_210 ⟨cn_X5_init, (by decide), by decide⟩ rfl (Nat.le_of_ble_eq_true rfl) (Nat.le_of_ble_eq_true rfl) (Nat.le_of_ble_eq_true rfl) (x_rv ?_)
  change AW _ _ _ _ _ _ 32 342 _ _ _ _
  obtain ⟨h34, H⟩ := x_ckp H
  obtain ⟨M35, w36, H⟩ := x_lt_of H
  have h37 : x_tag M35 v0 = 8 + 10 := by rw [w36]; exact h34
  refine x_putR' 34 22 8 3 dX8_init_34 lk_363 (by decide) (by decide) rfl (Or.inl ⟨_, rfl⟩) (Or.inr ⟨rfl, rfl⟩) h34 w36 ?_
  refine x_aload_n 37 0 dX8_init_37 rfl rfl ?_
  refine x_iconst 38 (-1 : Int32) dX8_init_38 (by decide) ?_
  obtain ⟨M38, w39, H⟩ := x_lt_of H
  have h40 : x_tag M38 v0 = 8 + 10 := by rw [w39]; exact h37
  refine x_putI' 39 26 8 4 dX8_init_39 lk_364 (by decide) (by decide) rfl (Or.inl rfl) (Or.inl rfl) h37 w39 ?_
  refine x_aload_n 42 0 dX8_init_42 rfl rfl ?_
  refine x_bipush 43 (8 : Int32) dX8_init_43 (by decide) ?_
  obtain ⟨a42, M41, w43, w44, H⟩ := x_al_of H
  refine x_anew4' 45 30 8 dX8_init_45 lk_232 (by decide) (by decide) (by decide) (Nat.le_of_ble_eq_true rfl) (Nat.le_of_ble_eq_true rfl) w43 w44 ?_
  have h45 : x_tag M41 a42 = 4 := x_al_tag w43 w44
  change AW _ _ _ _ _ _ 33 350 _ _ _ _
  obtain ⟨h46, H⟩ := x_ckp H
  obtain ⟨M47, w48, H⟩ := x_lt_of H
  have h49 : x_tag M47 a42 = 4 := by rw [w48]; exact h45
  have h50 : x_tag M47 v0 = 8 + 10 := by rw [w48]; exact h46
  refine x_putR' 48 32 8 5 dX8_init_48 lk_365 (by decide) (by decide) rfl (Or.inr ⟨_, rfl⟩) (Or.inr ⟨rfl, rfl⟩) h46 w48 ?_
  refine x_aload_n 51 0 dX8_init_51 rfl rfl ?_
  refine x_bipush 52 (8 : Int32) dX8_init_52 (by decide) ?_
  obtain ⟨a52, M51, w53, w54, H⟩ := x_al_of H
  refine x_newI' 54 8 dX8_init_54 lk_153 (by decide) (by decide) (by decide) (Nat.le_of_ble_eq_true rfl) (Nat.le_of_ble_eq_true rfl) w53 w54 ?_
  have h55 : x_tag M51 a52 = 1 := x_al_tag w53 w54
  change AW _ _ _ _ _ _ 34 358 _ _ _ _
  obtain ⟨h56, H⟩ := x_ckp H
  obtain ⟨M57, w58, H⟩ := x_lt_of H
  have h59 : x_tag M57 a52 = 1 := by rw [w58]; exact h55
  have h60 : x_tag M57 v0 = 8 + 10 := by rw [w58]; exact h56
  refine x_putR' 56 36 8 6 dX8_init_56 lk_366 (by decide) (by decide) rfl (Or.inr ⟨_, rfl⟩) (Or.inr ⟨rfl, rfl⟩) h56 w58 ?_
  refine x_aload_n 59 0 dX8_init_59 rfl rfl ?_
  obtain ⟨a62, M61, w63, w64, H⟩ := x_al_of H
  refine x_newc' 60 40 7 dX8_init_60 (by decide) lk_234 lk_235 lk_89 (Nat.le_of_ble_eq_true rfl) (Nat.le_of_ble_eq_true rfl) w63 w64 ?_
  have h65 : x_tag M61 a62 = 7 + 10 := x_al_tag w63 w64
  change AW _ _ _ _ _ _ 35 365 _ _ _ _
  refine x_dup 63 dX8_init_63 rfl ?_
  obtain ⟨M66, e68, H⟩ := x_bv_of H
  refine x_callIN 64 42 [] [(.ref a62), (.ref v0)] dX8_init_64 (ct_X7_init l e68) (List.mem_of_getElem? (i := 2) rfl) rfl rfl lk_237 h65 lk_89 lk_238 ⟨cn_X7_init, (by decide), by decide⟩ rfl (Nat.le_of_ble_eq_true rfl) (Nat.le_of_ble_eq_true rfl) (Nat.le_of_ble_eq_true rfl) (x_rv ?_)
  change AW _ _ _ _ _ _ 37 410 _ _ _ _
  obtain ⟨h69, H⟩ := x_ckp H
  obtain ⟨M70, w71, H⟩ := x_lt_of H
  have h72 : x_tag M70 v0 = 8 + 10 := by rw [w71]; exact h69
  refine x_putR' 67 43 8 7 dX8_init_67 lk_367 (by decide) (by decide) rfl (Or.inl ⟨_, rfl⟩) (Or.inr ⟨rfl, rfl⟩) h69 w71 ?_
  refine x_aload_n 70 0 dX8_init_70 rfl rfl ?_
  obtain ⟨a74, M73, w75, w76, H⟩ := x_al_of H
  refine x_newc' 71 47 1 dX8_init_71 (by decide) lk_265 lk_266 lk_90 (Nat.le_of_ble_eq_true rfl) (Nat.le_of_ble_eq_true rfl) w75 w76 ?_
  have h77 : x_tag M73 a74 = 1 + 10 := x_al_tag w75 w76
  change AW _ _ _ _ _ _ 38 419 _ _ _ _
  refine x_dup 74 dX8_init_74 rfl ?_
  obtain ⟨M78, e80, H⟩ := x_bv_of H
  refine x_callIN 75 49 [] [(.ref a74), (.ref v0)] dX8_init_75 (ct_X1_init l e80) (List.mem_of_getElem? (i := 4) rfl) rfl rfl lk_268 h77 lk_90 lk_269 ⟨cn_X1_init, (by decide), by decide⟩ rfl (Nat.le_of_ble_eq_true rfl) (Nat.le_of_ble_eq_true rfl) (Nat.le_of_ble_eq_true rfl) (x_rv ?_)
  change AW _ _ _ _ _ _ 41 6419 _ _ _ _
  obtain ⟨h81, H⟩ := x_ckp H
  obtain ⟨M82, w83, H⟩ := x_lt_of H
  have h84 : x_tag M82 v0 = 8 + 10 := by rw [w83]; exact h81
  refine x_putR' 78 50 8 8 dX8_init_78 lk_368 (by decide) (by decide) rfl (Or.inl ⟨_, rfl⟩) (Or.inr ⟨rfl, rfl⟩) h81 w83 ?_
  refine x_aload_n 81 0 dX8_init_81 rfl rfl ?_
  obtain ⟨a86, M85, w87, w88, H⟩ := x_al_of H
  refine x_newc' 82 54 3 dX8_init_82 (by decide) lk_299 lk_300 lk_91 (Nat.le_of_ble_eq_true rfl) (Nat.le_of_ble_eq_true rfl) w87 w88 ?_
  have h89 : x_tag M85 a86 = 3 + 10 := x_al_tag w87 w88
  change AW _ _ _ _ _ _ 42 6421 _ _ _ _
  refine x_dup 85 dX8_init_85 rfl ?_
  obtain ⟨M90, e92, H⟩ := x_bv_of H
  refine x_callIN 86 56 [] [(.ref a86), (.ref v0)] dX8_init_86 (ct_X3_init l e92) (List.mem_of_getElem? (i := 5) rfl) rfl rfl lk_302 h89 lk_91 lk_303 ⟨cn_X3_init, (by decide), by decide⟩ rfl (Nat.le_of_ble_eq_true rfl) (Nat.le_of_ble_eq_true rfl) (Nat.le_of_ble_eq_true rfl) (x_rv ?_)
  change AW _ _ _ _ _ _ 44 6823 _ _ _ _
  obtain ⟨h93, H⟩ := x_ckp H
  obtain ⟨M94, w95, H⟩ := x_lt_of H
  have h96 : x_tag M94 v0 = 8 + 10 := by rw [w95]; exact h93
  refine x_putR' 89 57 8 9 dX8_init_89 lk_369 (by decide) (by decide) rfl (Or.inl ⟨_, rfl⟩) (Or.inr ⟨rfl, rfl⟩) h93 w95 ?_
  refine x_aload_n 92 0 dX8_init_92 rfl rfl ?_
  obtain ⟨a98, M97, w99, w100, H⟩ := x_al_of H
  refine x_newc' 93 61 2 dX8_init_93 (by decide) lk_312 lk_118 lk_87 (Nat.le_of_ble_eq_true rfl) (Nat.le_of_ble_eq_true rfl) w99 w100 ?_
  have h101 : x_tag M97 a98 = 2 + 10 := x_al_tag w99 w100
  change AW _ _ _ _ _ _ 45 6828 _ _ _ _
  refine x_dup 96 dX8_init_96 rfl ?_
  obtain ⟨M102, e104, H⟩ := x_bv_of H
  refine x_callIN 97 63 [] [(.ref a98), (.ref v0)] dX8_init_97 (ct_X2_init l e104) (List.mem_of_getElem? (i := 6) rfl) rfl rfl lk_120 h101 lk_87 lk_121 ⟨cn_X2_init, (by decide), by decide⟩ rfl (Nat.le_of_ble_eq_true rfl) (Nat.le_of_ble_eq_true rfl) (Nat.le_of_ble_eq_true rfl) (x_rv ?_)
  obtain ⟨h105, H⟩ := x_ckp H
  obtain ⟨M106, w107, H⟩ := x_lt_of H
  have h108 : x_tag M106 v0 = 8 + 10 := by rw [w107]; exact h105
  refine x_putR' 100 64 8 10 dX8_init_100 lk_370 (by decide) (by decide) rfl (Or.inl ⟨_, rfl⟩) (Or.inr ⟨rfl, rfl⟩) h105 w107 ?_
  refine x_aload_n 103 0 dX8_init_103 rfl rfl ?_
  refine x_sipush 104 (201 : Int32) dX8_init_104 (by decide) ?_
  obtain ⟨a110, M109, w111, w112, H⟩ := x_al_of H
  refine x_newI' 107 201 dX8_init_107 lk_153 (by decide) (by decide) (by decide) (Nat.le_of_ble_eq_true rfl) (Nat.le_of_ble_eq_true rfl) w111 w112 ?_
  have h113 : x_tag M109 a110 = 1 := x_al_tag w111 w112
  change AW _ _ _ _ _ _ 46 7029 _ _ _ _
  obtain ⟨h114, H⟩ := x_ckp H
  obtain ⟨M115, w116, H⟩ := x_lt_of H
  have h117 : x_tag M115 a110 = 1 := by rw [w116]; exact h113
  have h118 : x_tag M115 v0 = 8 + 10 := by rw [w116]; exact h114
  refine x_putR' 109 68 8 11 dX8_init_109 lk_371 (by decide) (by decide) rfl (Or.inr ⟨_, rfl⟩) (Or.inr ⟨rfl, rfl⟩) h114 w116 ?_
  refine x_aload_n 112 0 dX8_init_112 rfl rfl ?_
  refine x_sipush 113 (201 : Int32) dX8_init_113 (by decide) ?_
  obtain ⟨a120, M119, w121, w122, H⟩ := x_al_of H
  refine x_newI' 116 201 dX8_init_116 lk_153 (by decide) (by decide) (by decide) (Nat.le_of_ble_eq_true rfl) (Nat.le_of_ble_eq_true rfl) w121 w122 ?_
  have h123 : x_tag M119 a120 = 1 := x_al_tag w121 w122
  change AW _ _ _ _ _ _ 47 7230 _ _ _ _
  obtain ⟨h124, H⟩ := x_ckp H
  obtain ⟨M125, w126, H⟩ := x_lt_of H
  have h127 : x_tag M125 a120 = 1 := by rw [w126]; exact h123
  have h128 : x_tag M125 v0 = 8 + 10 := by rw [w126]; exact h124
  refine x_putR' 118 71 8 12 dX8_init_118 lk_372 (by decide) (by decide) rfl (Or.inr ⟨_, rfl⟩) (Or.inr ⟨rfl, rfl⟩) h124 w126 ?_
  refine x_aload_n 121 0 dX8_init_121 rfl rfl ?_
  obtain ⟨a130, M129, w131, w132, H⟩ := x_al_of H
  refine x_newc' 122 74 0 dX8_init_122 (by decide) lk_314 lk_315 lk_92 (Nat.le_of_ble_eq_true rfl) (Nat.le_of_ble_eq_true rfl) w131 w132 ?_
  have h133 : x_tag M129 a130 = 0 + 10 := x_al_tag w131 w132
  change AW _ _ _ _ _ _ 48 7235 _ _ _ _
  refine x_dup 125 dX8_init_125 rfl ?_
  obtain ⟨M134, e136, H⟩ := x_bv_of H
  refine x_callIN 126 76 [] [(.ref a130), (.ref v0)] dX8_init_126 (ct_X0_init l e136) (List.mem_of_getElem? (i := 7) rfl) rfl rfl lk_317 h133 lk_92 lk_318 ⟨cn_X0_init, (by decide), by decide⟩ rfl (Nat.le_of_ble_eq_true rfl) (Nat.le_of_ble_eq_true rfl) (Nat.le_of_ble_eq_true rfl) (x_rv ?_)
  change AW _ _ _ _ _ _ 49 7255 _ _ _ _
  obtain ⟨h137, H⟩ := x_ckp H
  obtain ⟨M138, w139, H⟩ := x_lt_of H
  have h140 : x_tag M138 v0 = 8 + 10 := by rw [w139]; exact h137
  refine x_putR' 129 77 8 13 dX8_init_129 lk_373 (by decide) (by decide) rfl (Or.inl ⟨_, rfl⟩) (Or.inr ⟨rfl, rfl⟩) h137 w139 ?_
  refine x_iconst 132 (0 : Int32) dX8_init_132 (by decide) ?_
  refine x_istore_n 133 1 [some (.ref v0), some (.int (0 : Int32))] dX8_init_133 rfl rfl (Nat.le_of_ble_eq_true rfl) rfl ?_
  refine x_iload_n 134 1 dX8_init_134 rfl rfl ?_
  refine x_aload_n 135 0 dX8_init_135 rfl rfl ?_
  refine x_getf 136 32 8 5 (.ref (x_r M138 v0 5)) dX8_init_136 lk_365 (by decide) (by decide) rfl (fun _ => rfl) h140 ?_
  obtain ⟨h141, H⟩ := x_ckp H
  refine x_alen 139 4 dX8_init_139 h141 (by decide) ?_
  refine x_icmp_ge 140 162 dX8_init_140 (by decide) (fun c142 => ?_) (fun c142 => ?_)
  · replace H := x_ifp c142 H
    cases H
    exact x_vret 162 dX8_init_162 rfl (Nat.le_of_ble_eq_true rfl) (Nat.le_of_ble_eq_true rfl) ⟨rfl, rfl⟩
  · replace H := x_ifn c142 H
    refine x_aload_n 143 0 dX8_init_143 rfl rfl ?_
    refine x_getf 144 32 8 5 (.ref (x_r M138 v0 5)) dX8_init_144 lk_365 (by decide) (by decide) rfl (fun _ => rfl) h140 ?_
    refine x_iload_n 147 1 dX8_init_147 rfl rfl ?_
    obtain ⟨a144, M143, w145, w146, H⟩ := x_al_of H
    refine x_newc' 148 30 6 dX8_init_148 (by decide) lk_232 lk_337 lk_93 (Nat.le_of_ble_eq_true rfl) (Nat.le_of_ble_eq_true rfl) w145 w146 ?_
    have h147 : x_tag M143 a144 = 6 + 10 := x_al_tag w145 w146
    change AW _ _ _ _ _ _ 50 7259 _ _ _ _
    refine x_dup 151 dX8_init_151 rfl ?_
    obtain ⟨M148, e150, H⟩ := x_bv_of H
    refine x_callIN 152 81 [] [(.ref a144), (.int (0 : Int32)), (.ref (x_r M138 v0 5))] dX8_init_152 (ct_X6_init l e150) (List.mem_of_getElem? (i := 8) rfl) rfl rfl lk_339 h147 lk_93 lk_340 ⟨cn_X6_init, (by decide), by decide⟩ rfl (Nat.le_of_ble_eq_true rfl) (Nat.le_of_ble_eq_true rfl) (Nat.le_of_ble_eq_true rfl) (x_rv ?_)
    change AW _ _ _ _ _ _ 51 7419 _ _ _ _
    obtain ⟨h151, H⟩ := x_ckp H
    obtain ⟨h152, H⟩ := x_ckp H
    obtain ⟨M153, w154, H⟩ := x_lt_of H
    have h155 : x_at M153 (x_r M138 v0 5) 4 (0 : Int32) = true := by rw [w154]; exact h151
    have h156 : x_tag M153 (x_r M138 v0 5) = 4 := by rw [w154]; exact (x_at_1 h151)
    have h157 : x_tag M153 a144 = 6 + 10 := by rw [w154]; exact h152
    refine x_aast4' 155 dX8_init_155 h151 h152 w154 ?_
    refine x_iinc 156 1 ((0 : Int32) + (1 : Int32)) [some (.ref v0), some (.int ((0 : Int32) + (1 : Int32)))] dX8_init_156 rfl (congrArg (fun z : Int32 => (0 : Int32) + z) (show Int32.ofInt (1) = (1 : Int32) by decide)) rfl (Nat.le_of_ble_eq_true rfl) rfl ?_
    refine x_goto 159 134 dX8_init_159 (by decide) ?_
    refine x_iload_n 134 1 dX8_init_134 rfl rfl ?_
    refine x_aload_n 135 0 dX8_init_135 rfl rfl ?_
    obtain ⟨h158, H⟩ := x_ckp H
    refine x_getf 136 32 8 5 (.ref (x_r M153 v0 5)) dX8_init_136 lk_365 (by decide) (by decide) rfl (fun _ => rfl) h158 ?_
    obtain ⟨h159, H⟩ := x_ckp H
    refine x_alen 139 4 dX8_init_139 h159 (by decide) ?_
    refine x_icmp_ge 140 162 dX8_init_140 (by decide) (fun c160 => ?_) (fun c160 => ?_)
    · replace H := x_ifp c160 H
      cases H
      exact x_vret 162 dX8_init_162 rfl (Nat.le_of_ble_eq_true rfl) (Nat.le_of_ble_eq_true rfl) ⟨rfl, rfl⟩
    · replace H := x_ifn c160 H
      refine x_aload_n 143 0 dX8_init_143 rfl rfl ?_
      refine x_getf 144 32 8 5 (.ref (x_r M153 v0 5)) dX8_init_144 lk_365 (by decide) (by decide) rfl (fun _ => rfl) h158 ?_
      refine x_iload_n 147 1 dX8_init_147 rfl rfl ?_
      obtain ⟨a162, M161, w163, w164, H⟩ := x_al_of H
      refine x_newc' 148 30 6 dX8_init_148 (by decide) lk_232 lk_337 lk_93 (Nat.le_of_ble_eq_true rfl) (Nat.le_of_ble_eq_true rfl) w163 w164 ?_
      have h165 : x_tag M161 a162 = 6 + 10 := x_al_tag w163 w164
      change AW _ _ _ _ _ _ 52 7423 _ _ _ _
      refine x_dup 151 dX8_init_151 rfl ?_
      obtain ⟨M166, e168, H⟩ := x_bv_of H
      refine x_callIN 152 81 [] [(.ref a162), (.int ((0 : Int32) + (1 : Int32))), (.ref (x_r M153 v0 5))] dX8_init_152 (ct_X6_init l e168) (List.mem_of_getElem? (i := 8) rfl) rfl rfl lk_339 h165 lk_93 lk_340 ⟨cn_X6_init, (by decide), by decide⟩ rfl (Nat.le_of_ble_eq_true rfl) (Nat.le_of_ble_eq_true rfl) (Nat.le_of_ble_eq_true rfl) (x_rv ?_)
      change AW _ _ _ _ _ _ 53 7583 _ _ _ _
      obtain ⟨h169, H⟩ := x_ckp H
      obtain ⟨h170, H⟩ := x_ckp H
      obtain ⟨M171, w172, H⟩ := x_lt_of H
      have h173 : x_at M171 (x_r M153 v0 5) 4 ((0 : Int32) + (1 : Int32)) = true := by rw [w172]; exact h169
      have h174 : x_tag M171 (x_r M153 v0 5) = 4 := by rw [w172]; exact (x_at_1 h169)
      have h175 : x_tag M171 a162 = 6 + 10 := by rw [w172]; exact h170
      refine x_aast4' 155 dX8_init_155 h169 h170 w172 ?_
      refine x_iinc 156 1 (((0 : Int32) + (1 : Int32)) + (1 : Int32)) [some (.ref v0), some (.int (((0 : Int32) + (1 : Int32)) + (1 : Int32)))] dX8_init_156 rfl (congrArg (fun z : Int32 => ((0 : Int32) + (1 : Int32)) + z) (show Int32.ofInt (1) = (1 : Int32) by decide)) rfl (Nat.le_of_ble_eq_true rfl) rfl ?_
      refine x_goto 159 134 dX8_init_159 (by decide) ?_
      refine x_iload_n 134 1 dX8_init_134 rfl rfl ?_
      refine x_aload_n 135 0 dX8_init_135 rfl rfl ?_
      obtain ⟨h176, H⟩ := x_ckp H
      refine x_getf 136 32 8 5 (.ref (x_r M171 v0 5)) dX8_init_136 lk_365 (by decide) (by decide) rfl (fun _ => rfl) h176 ?_
      obtain ⟨h177, H⟩ := x_ckp H
      refine x_alen 139 4 dX8_init_139 h177 (by decide) ?_
      refine x_icmp_ge 140 162 dX8_init_140 (by decide) (fun c178 => ?_) (fun c178 => ?_)
      · replace H := x_ifp c178 H
        cases H
        exact x_vret 162 dX8_init_162 rfl (Nat.le_of_ble_eq_true rfl) (Nat.le_of_ble_eq_true rfl) ⟨rfl, rfl⟩
      · replace H := x_ifn c178 H
        refine x_aload_n 143 0 dX8_init_143 rfl rfl ?_
        refine x_getf 144 32 8 5 (.ref (x_r M171 v0 5)) dX8_init_144 lk_365 (by decide) (by decide) rfl (fun _ => rfl) h176 ?_
        refine x_iload_n 147 1 dX8_init_147 rfl rfl ?_
        obtain ⟨a180, M179, w181, w182, H⟩ := x_al_of H
        refine x_newc' 148 30 6 dX8_init_148 (by decide) lk_232 lk_337 lk_93 (Nat.le_of_ble_eq_true rfl) (Nat.le_of_ble_eq_true rfl) w181 w182 ?_
        have h183 : x_tag M179 a180 = 6 + 10 := x_al_tag w181 w182
        change AW _ _ _ _ _ _ 54 7587 _ _ _ _
        refine x_dup 151 dX8_init_151 rfl ?_
        obtain ⟨M184, e186, H⟩ := x_bv_of H
        refine x_callIN 152 81 [] [(.ref a180), (.int (((0 : Int32) + (1 : Int32)) + (1 : Int32))), (.ref (x_r M171 v0 5))] dX8_init_152 (ct_X6_init l e186) (List.mem_of_getElem? (i := 8) rfl) rfl rfl lk_339 h183 lk_93 lk_340 ⟨cn_X6_init, (by decide), by decide⟩ rfl (Nat.le_of_ble_eq_true rfl) (Nat.le_of_ble_eq_true rfl) (Nat.le_of_ble_eq_true rfl) (x_rv ?_)
        change AW _ _ _ _ _ _ 55 7747 _ _ _ _
        obtain ⟨h187, H⟩ := x_ckp H
        obtain ⟨h188, H⟩ := x_ckp H
        obtain ⟨M189, w190, H⟩ := x_lt_of H
        have h191 : x_at M189 (x_r M171 v0 5) 4 (((0 : Int32) + (1 : Int32)) + (1 : Int32)) = true := by rw [w190]; exact h187
        have h192 : x_tag M189 (x_r M171 v0 5) = 4 := by rw [w190]; exact (x_at_1 h187)
        have h193 : x_tag M189 a180 = 6 + 10 := by rw [w190]; exact h188
        refine x_aast4' 155 dX8_init_155 h187 h188 w190 ?_
        refine x_iinc 156 1 ((((0 : Int32) + (1 : Int32)) + (1 : Int32)) + (1 : Int32)) [some (.ref v0), some (.int ((((0 : Int32) + (1 : Int32)) + (1 : Int32)) + (1 : Int32)))] dX8_init_156 rfl (congrArg (fun z : Int32 => (((0 : Int32) + (1 : Int32)) + (1 : Int32)) + z) (show Int32.ofInt (1) = (1 : Int32) by decide)) rfl (Nat.le_of_ble_eq_true rfl) rfl ?_
        refine x_goto 159 134 dX8_init_159 (by decide) ?_
        refine x_iload_n 134 1 dX8_init_134 rfl rfl ?_
        refine x_aload_n 135 0 dX8_init_135 rfl rfl ?_
        obtain ⟨h194, H⟩ := x_ckp H
        refine x_getf 136 32 8 5 (.ref (x_r M189 v0 5)) dX8_init_136 lk_365 (by decide) (by decide) rfl (fun _ => rfl) h194 ?_
        obtain ⟨h195, H⟩ := x_ckp H
        refine x_alen 139 4 dX8_init_139 h195 (by decide) ?_
        refine x_icmp_ge 140 162 dX8_init_140 (by decide) (fun c196 => ?_) (fun c196 => ?_)
        · replace H := x_ifp c196 H
          cases H
          exact x_vret 162 dX8_init_162 rfl (Nat.le_of_ble_eq_true rfl) (Nat.le_of_ble_eq_true rfl) ⟨rfl, rfl⟩
        · replace H := x_ifn c196 H
          refine x_aload_n 143 0 dX8_init_143 rfl rfl ?_
          refine x_getf 144 32 8 5 (.ref (x_r M189 v0 5)) dX8_init_144 lk_365 (by decide) (by decide) rfl (fun _ => rfl) h194 ?_
          refine x_iload_n 147 1 dX8_init_147 rfl rfl ?_
          obtain ⟨a198, M197, w199, w200, H⟩ := x_al_of H
          refine x_newc' 148 30 6 dX8_init_148 (by decide) lk_232 lk_337 lk_93 (Nat.le_of_ble_eq_true rfl) (Nat.le_of_ble_eq_true rfl) w199 w200 ?_
          have h201 : x_tag M197 a198 = 6 + 10 := x_al_tag w199 w200
          change AW _ _ _ _ _ _ 56 7751 _ _ _ _
          refine x_dup 151 dX8_init_151 rfl ?_
          obtain ⟨M202, e204, H⟩ := x_bv_of H
          refine x_callIN 152 81 [] [(.ref a198), (.int ((((0 : Int32) + (1 : Int32)) + (1 : Int32)) + (1 : Int32))), (.ref (x_r M189 v0 5))] dX8_init_152 (ct_X6_init l e204) (List.mem_of_getElem? (i := 8) rfl) rfl rfl lk_339 h201 lk_93 lk_340 ⟨cn_X6_init, (by decide), by decide⟩ rfl (Nat.le_of_ble_eq_true rfl) (Nat.le_of_ble_eq_true rfl) (Nat.le_of_ble_eq_true rfl) (x_rv ?_)
          change AW _ _ _ _ _ _ 57 7911 _ _ _ _
          obtain ⟨h205, H⟩ := x_ckp H
          obtain ⟨h206, H⟩ := x_ckp H
          obtain ⟨M207, w208, H⟩ := x_lt_of H
          have h209 : x_at M207 (x_r M189 v0 5) 4 ((((0 : Int32) + (1 : Int32)) + (1 : Int32)) + (1 : Int32)) = true := by rw [w208]; exact h205
          have h210 : x_tag M207 (x_r M189 v0 5) = 4 := by rw [w208]; exact (x_at_1 h205)
          have h211 : x_tag M207 a198 = 6 + 10 := by rw [w208]; exact h206
          refine x_aast4' 155 dX8_init_155 h205 h206 w208 ?_
          refine x_iinc 156 1 (((((0 : Int32) + (1 : Int32)) + (1 : Int32)) + (1 : Int32)) + (1 : Int32)) [some (.ref v0), some (.int (((((0 : Int32) + (1 : Int32)) + (1 : Int32)) + (1 : Int32)) + (1 : Int32)))] dX8_init_156 rfl (congrArg (fun z : Int32 => ((((0 : Int32) + (1 : Int32)) + (1 : Int32)) + (1 : Int32)) + z) (show Int32.ofInt (1) = (1 : Int32) by decide)) rfl (Nat.le_of_ble_eq_true rfl) rfl ?_
          refine x_goto 159 134 dX8_init_159 (by decide) ?_
          refine x_iload_n 134 1 dX8_init_134 rfl rfl ?_
          refine x_aload_n 135 0 dX8_init_135 rfl rfl ?_
          obtain ⟨h212, H⟩ := x_ckp H
          refine x_getf 136 32 8 5 (.ref (x_r M207 v0 5)) dX8_init_136 lk_365 (by decide) (by decide) rfl (fun _ => rfl) h212 ?_
          obtain ⟨h213, H⟩ := x_ckp H
          refine x_alen 139 4 dX8_init_139 h213 (by decide) ?_
          refine x_icmp_ge 140 162 dX8_init_140 (by decide) (fun c214 => ?_) (fun c214 => ?_)
          · replace H := x_ifp c214 H
            cases H
            exact x_vret 162 dX8_init_162 rfl (Nat.le_of_ble_eq_true rfl) (Nat.le_of_ble_eq_true rfl) ⟨rfl, rfl⟩
          · replace H := x_ifn c214 H
            refine x_aload_n 143 0 dX8_init_143 rfl rfl ?_
            refine x_getf 144 32 8 5 (.ref (x_r M207 v0 5)) dX8_init_144 lk_365 (by decide) (by decide) rfl (fun _ => rfl) h212 ?_
            refine x_iload_n 147 1 dX8_init_147 rfl rfl ?_
            obtain ⟨a216, M215, w217, w218, H⟩ := x_al_of H
            refine x_newc' 148 30 6 dX8_init_148 (by decide) lk_232 lk_337 lk_93 (Nat.le_of_ble_eq_true rfl) (Nat.le_of_ble_eq_true rfl) w217 w218 ?_
            have h219 : x_tag M215 a216 = 6 + 10 := x_al_tag w217 w218
            change AW _ _ _ _ _ _ 58 7915 _ _ _ _
            refine x_dup 151 dX8_init_151 rfl ?_
            obtain ⟨M220, e222, H⟩ := x_bv_of H
            refine x_callIN 152 81 [] [(.ref a216), (.int (((((0 : Int32) + (1 : Int32)) + (1 : Int32)) + (1 : Int32)) + (1 : Int32))), (.ref (x_r M207 v0 5))] dX8_init_152 (ct_X6_init l e222) (List.mem_of_getElem? (i := 8) rfl) rfl rfl lk_339 h219 lk_93 lk_340 ⟨cn_X6_init, (by decide), by decide⟩ rfl (Nat.le_of_ble_eq_true rfl) (Nat.le_of_ble_eq_true rfl) (Nat.le_of_ble_eq_true rfl) (x_rv ?_)
            change AW _ _ _ _ _ _ 59 8075 _ _ _ _
            obtain ⟨h223, H⟩ := x_ckp H
            obtain ⟨h224, H⟩ := x_ckp H
            obtain ⟨M225, w226, H⟩ := x_lt_of H
            have h227 : x_at M225 (x_r M207 v0 5) 4 (((((0 : Int32) + (1 : Int32)) + (1 : Int32)) + (1 : Int32)) + (1 : Int32)) = true := by rw [w226]; exact h223
            have h228 : x_tag M225 (x_r M207 v0 5) = 4 := by rw [w226]; exact (x_at_1 h223)
            have h229 : x_tag M225 a216 = 6 + 10 := by rw [w226]; exact h224
            refine x_aast4' 155 dX8_init_155 h223 h224 w226 ?_
            refine x_iinc 156 1 ((((((0 : Int32) + (1 : Int32)) + (1 : Int32)) + (1 : Int32)) + (1 : Int32)) + (1 : Int32)) [some (.ref v0), some (.int ((((((0 : Int32) + (1 : Int32)) + (1 : Int32)) + (1 : Int32)) + (1 : Int32)) + (1 : Int32)))] dX8_init_156 rfl (congrArg (fun z : Int32 => (((((0 : Int32) + (1 : Int32)) + (1 : Int32)) + (1 : Int32)) + (1 : Int32)) + z) (show Int32.ofInt (1) = (1 : Int32) by decide)) rfl (Nat.le_of_ble_eq_true rfl) rfl ?_
            refine x_goto 159 134 dX8_init_159 (by decide) ?_
            refine x_iload_n 134 1 dX8_init_134 rfl rfl ?_
            refine x_aload_n 135 0 dX8_init_135 rfl rfl ?_
            obtain ⟨h230, H⟩ := x_ckp H
            refine x_getf 136 32 8 5 (.ref (x_r M225 v0 5)) dX8_init_136 lk_365 (by decide) (by decide) rfl (fun _ => rfl) h230 ?_
            obtain ⟨h231, H⟩ := x_ckp H
            refine x_alen 139 4 dX8_init_139 h231 (by decide) ?_
            refine x_icmp_ge 140 162 dX8_init_140 (by decide) (fun c232 => ?_) (fun c232 => ?_)
            · replace H := x_ifp c232 H
              cases H
              exact x_vret 162 dX8_init_162 rfl (Nat.le_of_ble_eq_true rfl) (Nat.le_of_ble_eq_true rfl) ⟨rfl, rfl⟩
            · replace H := x_ifn c232 H
              refine x_aload_n 143 0 dX8_init_143 rfl rfl ?_
              refine x_getf 144 32 8 5 (.ref (x_r M225 v0 5)) dX8_init_144 lk_365 (by decide) (by decide) rfl (fun _ => rfl) h230 ?_
              refine x_iload_n 147 1 dX8_init_147 rfl rfl ?_
              obtain ⟨a234, M233, w235, w236, H⟩ := x_al_of H
              refine x_newc' 148 30 6 dX8_init_148 (by decide) lk_232 lk_337 lk_93 (Nat.le_of_ble_eq_true rfl) (Nat.le_of_ble_eq_true rfl) w235 w236 ?_
              have h237 : x_tag M233 a234 = 6 + 10 := x_al_tag w235 w236
              change AW _ _ _ _ _ _ 60 8079 _ _ _ _
              refine x_dup 151 dX8_init_151 rfl ?_
              obtain ⟨M238, e240, H⟩ := x_bv_of H
              refine x_callIN 152 81 [] [(.ref a234), (.int ((((((0 : Int32) + (1 : Int32)) + (1 : Int32)) + (1 : Int32)) + (1 : Int32)) + (1 : Int32))), (.ref (x_r M225 v0 5))] dX8_init_152 (ct_X6_init l e240) (List.mem_of_getElem? (i := 8) rfl) rfl rfl lk_339 h237 lk_93 lk_340 ⟨cn_X6_init, (by decide), by decide⟩ rfl (Nat.le_of_ble_eq_true rfl) (Nat.le_of_ble_eq_true rfl) (Nat.le_of_ble_eq_true rfl) (x_rv ?_)
              change AW _ _ _ _ _ _ 61 8239 _ _ _ _
              obtain ⟨h241, H⟩ := x_ckp H
              obtain ⟨h242, H⟩ := x_ckp H
              obtain ⟨M243, w244, H⟩ := x_lt_of H
              have h245 : x_at M243 (x_r M225 v0 5) 4 ((((((0 : Int32) + (1 : Int32)) + (1 : Int32)) + (1 : Int32)) + (1 : Int32)) + (1 : Int32)) = true := by rw [w244]; exact h241
              have h246 : x_tag M243 (x_r M225 v0 5) = 4 := by rw [w244]; exact (x_at_1 h241)
              have h247 : x_tag M243 a234 = 6 + 10 := by rw [w244]; exact h242
              refine x_aast4' 155 dX8_init_155 h241 h242 w244 ?_
              refine x_iinc 156 1 (((((((0 : Int32) + (1 : Int32)) + (1 : Int32)) + (1 : Int32)) + (1 : Int32)) + (1 : Int32)) + (1 : Int32)) [some (.ref v0), some (.int (((((((0 : Int32) + (1 : Int32)) + (1 : Int32)) + (1 : Int32)) + (1 : Int32)) + (1 : Int32)) + (1 : Int32)))] dX8_init_156 rfl (congrArg (fun z : Int32 => ((((((0 : Int32) + (1 : Int32)) + (1 : Int32)) + (1 : Int32)) + (1 : Int32)) + (1 : Int32)) + z) (show Int32.ofInt (1) = (1 : Int32) by decide)) rfl (Nat.le_of_ble_eq_true rfl) rfl ?_
              refine x_goto 159 134 dX8_init_159 (by decide) ?_
              refine x_iload_n 134 1 dX8_init_134 rfl rfl ?_
              refine x_aload_n 135 0 dX8_init_135 rfl rfl ?_
              obtain ⟨h248, H⟩ := x_ckp H
              refine x_getf 136 32 8 5 (.ref (x_r M243 v0 5)) dX8_init_136 lk_365 (by decide) (by decide) rfl (fun _ => rfl) h248 ?_
              obtain ⟨h249, H⟩ := x_ckp H
              refine x_alen 139 4 dX8_init_139 h249 (by decide) ?_
              refine x_icmp_ge 140 162 dX8_init_140 (by decide) (fun c250 => ?_) (fun c250 => ?_)
              · replace H := x_ifp c250 H
                cases H
                exact x_vret 162 dX8_init_162 rfl (Nat.le_of_ble_eq_true rfl) (Nat.le_of_ble_eq_true rfl) ⟨rfl, rfl⟩
              · replace H := x_ifn c250 H
                refine x_aload_n 143 0 dX8_init_143 rfl rfl ?_
                refine x_getf 144 32 8 5 (.ref (x_r M243 v0 5)) dX8_init_144 lk_365 (by decide) (by decide) rfl (fun _ => rfl) h248 ?_
                refine x_iload_n 147 1 dX8_init_147 rfl rfl ?_
                obtain ⟨a252, M251, w253, w254, H⟩ := x_al_of H
                refine x_newc' 148 30 6 dX8_init_148 (by decide) lk_232 lk_337 lk_93 (Nat.le_of_ble_eq_true rfl) (Nat.le_of_ble_eq_true rfl) w253 w254 ?_
                have h255 : x_tag M251 a252 = 6 + 10 := x_al_tag w253 w254
                change AW _ _ _ _ _ _ 62 8243 _ _ _ _
                refine x_dup 151 dX8_init_151 rfl ?_
                obtain ⟨M256, e258, H⟩ := x_bv_of H
                refine x_callIN 152 81 [] [(.ref a252), (.int (((((((0 : Int32) + (1 : Int32)) + (1 : Int32)) + (1 : Int32)) + (1 : Int32)) + (1 : Int32)) + (1 : Int32))), (.ref (x_r M243 v0 5))] dX8_init_152 (ct_X6_init l e258) (List.mem_of_getElem? (i := 8) rfl) rfl rfl lk_339 h255 lk_93 lk_340 ⟨cn_X6_init, (by decide), by decide⟩ rfl (Nat.le_of_ble_eq_true rfl) (Nat.le_of_ble_eq_true rfl) (Nat.le_of_ble_eq_true rfl) (x_rv ?_)
                change AW _ _ _ _ _ _ 63 8403 _ _ _ _
                obtain ⟨h259, H⟩ := x_ckp H
                obtain ⟨h260, H⟩ := x_ckp H
                obtain ⟨M261, w262, H⟩ := x_lt_of H
                have h263 : x_at M261 (x_r M243 v0 5) 4 (((((((0 : Int32) + (1 : Int32)) + (1 : Int32)) + (1 : Int32)) + (1 : Int32)) + (1 : Int32)) + (1 : Int32)) = true := by rw [w262]; exact h259
                have h264 : x_tag M261 (x_r M243 v0 5) = 4 := by rw [w262]; exact (x_at_1 h259)
                have h265 : x_tag M261 a252 = 6 + 10 := by rw [w262]; exact h260
                refine x_aast4' 155 dX8_init_155 h259 h260 w262 ?_
                refine x_iinc 156 1 ((((((((0 : Int32) + (1 : Int32)) + (1 : Int32)) + (1 : Int32)) + (1 : Int32)) + (1 : Int32)) + (1 : Int32)) + (1 : Int32)) [some (.ref v0), some (.int ((((((((0 : Int32) + (1 : Int32)) + (1 : Int32)) + (1 : Int32)) + (1 : Int32)) + (1 : Int32)) + (1 : Int32)) + (1 : Int32)))] dX8_init_156 rfl (congrArg (fun z : Int32 => (((((((0 : Int32) + (1 : Int32)) + (1 : Int32)) + (1 : Int32)) + (1 : Int32)) + (1 : Int32)) + (1 : Int32)) + z) (show Int32.ofInt (1) = (1 : Int32) by decide)) rfl (Nat.le_of_ble_eq_true rfl) rfl ?_
                refine x_goto 159 134 dX8_init_159 (by decide) ?_
                refine x_iload_n 134 1 dX8_init_134 rfl rfl ?_
                refine x_aload_n 135 0 dX8_init_135 rfl rfl ?_
                obtain ⟨h266, H⟩ := x_ckp H
                refine x_getf 136 32 8 5 (.ref (x_r M261 v0 5)) dX8_init_136 lk_365 (by decide) (by decide) rfl (fun _ => rfl) h266 ?_
                obtain ⟨h267, H⟩ := x_ckp H
                refine x_alen 139 4 dX8_init_139 h267 (by decide) ?_
                refine x_icmp_ge 140 162 dX8_init_140 (by decide) (fun c268 => ?_) (fun c268 => ?_)
                · replace H := x_ifp c268 H
                  cases H
                  exact x_vret 162 dX8_init_162 rfl (Nat.le_of_ble_eq_true rfl) (Nat.le_of_ble_eq_true rfl) ⟨rfl, rfl⟩
                · replace H := x_ifn c268 H
                  refine x_aload_n 143 0 dX8_init_143 rfl rfl ?_
                  refine x_getf 144 32 8 5 (.ref (x_r M261 v0 5)) dX8_init_144 lk_365 (by decide) (by decide) rfl (fun _ => rfl) h266 ?_
                  refine x_iload_n 147 1 dX8_init_147 rfl rfl ?_
                  obtain ⟨a270, M269, w271, w272, H⟩ := x_al_of H
                  refine x_newc' 148 30 6 dX8_init_148 (by decide) lk_232 lk_337 lk_93 (Nat.le_of_ble_eq_true rfl) (Nat.le_of_ble_eq_true rfl) w271 w272 ?_
                  have h273 : x_tag M269 a270 = 6 + 10 := x_al_tag w271 w272
                  change AW _ _ _ _ _ _ 64 8407 _ _ _ _
                  refine x_dup 151 dX8_init_151 rfl ?_
                  obtain ⟨M274, e276, H⟩ := x_bv_of H
                  refine x_callIN 152 81 [] [(.ref a270), (.int ((((((((0 : Int32) + (1 : Int32)) + (1 : Int32)) + (1 : Int32)) + (1 : Int32)) + (1 : Int32)) + (1 : Int32)) + (1 : Int32))), (.ref (x_r M261 v0 5))] dX8_init_152 (ct_X6_init l e276) (List.mem_of_getElem? (i := 8) rfl) rfl rfl lk_339 h273 lk_93 lk_340 ⟨cn_X6_init, (by decide), by decide⟩ rfl (Nat.le_of_ble_eq_true rfl) (Nat.le_of_ble_eq_true rfl) (Nat.le_of_ble_eq_true rfl) (x_rv ?_)
                  change AW _ _ _ _ _ _ 65 8567 _ _ _ _
                  obtain ⟨h277, H⟩ := x_ckp H
                  obtain ⟨h278, H⟩ := x_ckp H
                  obtain ⟨M279, w280, H⟩ := x_lt_of H
                  have h281 : x_at M279 (x_r M261 v0 5) 4 ((((((((0 : Int32) + (1 : Int32)) + (1 : Int32)) + (1 : Int32)) + (1 : Int32)) + (1 : Int32)) + (1 : Int32)) + (1 : Int32)) = true := by rw [w280]; exact h277
                  have h282 : x_tag M279 (x_r M261 v0 5) = 4 := by rw [w280]; exact (x_at_1 h277)
                  have h283 : x_tag M279 a270 = 6 + 10 := by rw [w280]; exact h278
                  refine x_aast4' 155 dX8_init_155 h277 h278 w280 ?_
                  refine x_iinc 156 1 (((((((((0 : Int32) + (1 : Int32)) + (1 : Int32)) + (1 : Int32)) + (1 : Int32)) + (1 : Int32)) + (1 : Int32)) + (1 : Int32)) + (1 : Int32)) [some (.ref v0), some (.int (((((((((0 : Int32) + (1 : Int32)) + (1 : Int32)) + (1 : Int32)) + (1 : Int32)) + (1 : Int32)) + (1 : Int32)) + (1 : Int32)) + (1 : Int32)))] dX8_init_156 rfl (congrArg (fun z : Int32 => ((((((((0 : Int32) + (1 : Int32)) + (1 : Int32)) + (1 : Int32)) + (1 : Int32)) + (1 : Int32)) + (1 : Int32)) + (1 : Int32)) + z) (show Int32.ofInt (1) = (1 : Int32) by decide)) rfl (Nat.le_of_ble_eq_true rfl) rfl ?_
                  refine x_goto 159 134 dX8_init_159 (by decide) ?_
                  refine x_iload_n 134 1 dX8_init_134 rfl rfl ?_
                  refine x_aload_n 135 0 dX8_init_135 rfl rfl ?_
                  obtain ⟨h284, H⟩ := x_ckp H
                  refine x_getf 136 32 8 5 (.ref (x_r M279 v0 5)) dX8_init_136 lk_365 (by decide) (by decide) rfl (fun _ => rfl) h284 ?_
                  obtain ⟨h285, H⟩ := x_ckp H
                  refine x_alen 139 4 dX8_init_139 h285 (by decide) ?_
                  refine x_icmp_ge 140 162 dX8_init_140 (by decide) (fun c286 => ?_) (fun c286 => ?_)
                  · replace H := x_ifp c286 H
                    cases H
                    exact x_vret 162 dX8_init_162 rfl (Nat.le_of_ble_eq_true rfl) (Nat.le_of_ble_eq_true rfl) ⟨rfl, rfl⟩
                  · replace H := x_ifn c286 H
                    refine x_aload_n 143 0 dX8_init_143 rfl rfl ?_
                    refine x_getf 144 32 8 5 (.ref (x_r M279 v0 5)) dX8_init_144 lk_365 (by decide) (by decide) rfl (fun _ => rfl) h284 ?_
                    refine x_iload_n 147 1 dX8_init_147 rfl rfl ?_
                    obtain ⟨a288, M287, w289, w290, H⟩ := x_al_of H
                    refine x_newc' 148 30 6 dX8_init_148 (by decide) lk_232 lk_337 lk_93 (Nat.le_of_ble_eq_true rfl) (Nat.le_of_ble_eq_true rfl) w289 w290 ?_
                    have h291 : x_tag M287 a288 = 6 + 10 := x_al_tag w289 w290
                    change AW _ _ _ _ _ _ 66 8571 _ _ _ _
                    refine x_dup 151 dX8_init_151 rfl ?_
                    obtain ⟨M292, e294, H⟩ := x_bv_of H
                    refine x_callIN 152 81 [] [(.ref a288), (.int (((((((((0 : Int32) + (1 : Int32)) + (1 : Int32)) + (1 : Int32)) + (1 : Int32)) + (1 : Int32)) + (1 : Int32)) + (1 : Int32)) + (1 : Int32))), (.ref (x_r M279 v0 5))] dX8_init_152 (ct_X6_init l e294) (List.mem_of_getElem? (i := 8) rfl) rfl rfl lk_339 h291 lk_93 lk_340 ⟨cn_X6_init, (by decide), by decide⟩ rfl (Nat.le_of_ble_eq_true rfl) (Nat.le_of_ble_eq_true rfl) (Nat.le_of_ble_eq_true rfl) (x_rv ?_)
                    change AW _ _ _ _ _ _ 67 8731 _ _ _ _
                    obtain ⟨h295, H⟩ := x_ckp H
                    obtain ⟨h296, H⟩ := x_ckp H
                    obtain ⟨M297, w298, H⟩ := x_lt_of H
                    have h299 : x_at M297 (x_r M279 v0 5) 4 (((((((((0 : Int32) + (1 : Int32)) + (1 : Int32)) + (1 : Int32)) + (1 : Int32)) + (1 : Int32)) + (1 : Int32)) + (1 : Int32)) + (1 : Int32)) = true := by rw [w298]; exact h295
                    have h300 : x_tag M297 (x_r M279 v0 5) = 4 := by rw [w298]; exact (x_at_1 h295)
                    have h301 : x_tag M297 a288 = 6 + 10 := by rw [w298]; exact h296
                    refine x_aast4' 155 dX8_init_155 h295 h296 w298 ?_
                    refine x_iinc 156 1 ((((((((((0 : Int32) + (1 : Int32)) + (1 : Int32)) + (1 : Int32)) + (1 : Int32)) + (1 : Int32)) + (1 : Int32)) + (1 : Int32)) + (1 : Int32)) + (1 : Int32)) [some (.ref v0), some (.int ((((((((((0 : Int32) + (1 : Int32)) + (1 : Int32)) + (1 : Int32)) + (1 : Int32)) + (1 : Int32)) + (1 : Int32)) + (1 : Int32)) + (1 : Int32)) + (1 : Int32)))] dX8_init_156 rfl (congrArg (fun z : Int32 => (((((((((0 : Int32) + (1 : Int32)) + (1 : Int32)) + (1 : Int32)) + (1 : Int32)) + (1 : Int32)) + (1 : Int32)) + (1 : Int32)) + (1 : Int32)) + z) (show Int32.ofInt (1) = (1 : Int32) by decide)) rfl (Nat.le_of_ble_eq_true rfl) rfl ?_
                    refine x_goto 159 134 dX8_init_159 (by decide) ?_
                    cases H

theorem ct_X8_init (l : Launch) {v0 : Nat} {M : XM} {q : XM} (H : f_X8_init v0 M = some q) : Ct l m_X8_init 4 67 8731 [(.ref v0)] M (x_Rv q) := x_met l m_X8_init 4 67 8731 [(.ref v0)] M (x_Rv q) _ rfl rfl (Nat.le_of_ble_eq_true rfl) (t_X8_init l H)
abbrev m_X8_isShelf : XU := (yX8_isShelf, cX8_isShelf, 1, (some .boolean))
theorem cn_X8_isShelf : m_X8_isShelf.1.cls ≠ "java/lang/invoke/MethodHandle" ∧ m_X8_isShelf.1.cls ≠ "java/lang/invoke/VarHandle" ∧ (parseMethodDescriptor m_X8_isShelf.1.desc).map (fun q => q.parameters.length) = some 1 := by decide +kernel
def f_X8_isShelf (v0 : Int32) (M : XM) : Option (Int32 × XM) :=
  if v0 < 0 then (some ((0 : Int32), M)) else (if (8 : Int32) ≤ v0 then (some ((0 : Int32), M)) else (some ((1 : Int32), M)))
set_option maxRecDepth 20000 in
set_option maxHeartbeats 4000000 in
theorem t_X8_isShelf (l : Launch) {v0 : Int32} {M : XM} {q : Int32 × XM} (H : f_X8_isShelf v0 M = some q) : AW l m_X8_isShelf 1 0 0 (x_Ri q) 0 0 0 [some (.int v0)] [] M := by
  unfold f_X8_isShelf at H
  refine x_iload_n 0 0 dX8_isShelf_0 rfl rfl ?_
  refine x_if_lt 1 14 dX8_isShelf_1 (by decide) (fun c1 => ?_) (fun c1 => ?_)
  · replace H := x_ifp c1 H
    refine x_iconst 14 (0 : Int32) dX8_isShelf_14 (by decide) ?_
    cases H
    exact x_iret 15 dX8_isShelf_15 .boolean rfl rfl (Nat.le_of_ble_eq_true rfl) (Nat.le_of_ble_eq_true rfl) ⟨rfl, rfl⟩
  · replace H := x_ifn c1 H
    refine x_iload_n 4 0 dX8_isShelf_4 rfl rfl ?_
    refine x_bipush 5 (8 : Int32) dX8_isShelf_5 (by decide) ?_
    refine x_icmp_ge 7 14 dX8_isShelf_7 (by decide) (fun c2 => ?_) (fun c2 => ?_)
    · replace H := x_ifp c2 H
      refine x_iconst 14 (0 : Int32) dX8_isShelf_14 (by decide) ?_
      cases H
      exact x_iret 15 dX8_isShelf_15 .boolean rfl rfl (Nat.le_of_ble_eq_true rfl) (Nat.le_of_ble_eq_true rfl) ⟨rfl, rfl⟩
    · replace H := x_ifn c2 H
      refine x_iconst 10 (1 : Int32) dX8_isShelf_10 (by decide) ?_
      refine x_goto 11 15 dX8_isShelf_11 (by decide) ?_
      cases H
      exact x_iret 15 dX8_isShelf_15 .boolean rfl rfl (Nat.le_of_ble_eq_true rfl) (Nat.le_of_ble_eq_true rfl) ⟨rfl, rfl⟩

theorem ct_X8_isShelf (l : Launch) {v0 : Int32} {M : XM} {q : Int32 × XM} (H : f_X8_isShelf v0 M = some q) : Ct l m_X8_isShelf 1 0 0 [(.int v0)] M (x_Ri q) := x_met l m_X8_isShelf 1 0 0 [(.int v0)] M (x_Ri q) _ rfl rfl (Nat.le_of_ble_eq_true rfl) (t_X8_isShelf l H)
theorem lk_409 : Cond.code yX8_isShelf cX8_isShelf 1 (some .boolean) ∈ x_TB := x_tb (k := 409) (by decide +kernel) rfl
theorem lk_407 : Cond.methodLink RX8 82 yX8_isShelf ∈ x_TB := x_tb (k := 407) (by decide +kernel) rfl
theorem lk_408 : Cond.static yX8_isShelf ∈ x_TB := x_tb (k := 408) (by decide +kernel) rfl
abbrev m_X8_refuse : XU := (yX8_refuse, cX8_refuse, 2, (some .int))
theorem cn_X8_refuse : m_X8_refuse.1.cls ≠ "java/lang/invoke/MethodHandle" ∧ m_X8_refuse.1.cls ≠ "java/lang/invoke/VarHandle" ∧ (parseMethodDescriptor m_X8_refuse.1.desc).map (fun q => q.parameters.length) = some 1 := by decide +kernel
def f_X8_refuse (v0 : Nat) (v1 : Int32) (M : XM) : Option (Int32 × XM) :=
  if (0 : Int32) ≤ v1 then (some (v1, M)) else (if x_tag M v0 = 8 + 10 then (if x_tag M (x_r M v0 6) = 1 then (if (Int32.ofNat (x_len M (x_r M v0 6))) ≤ (-v1) then (some (v1, M)) else (if x_at M (x_r M v0 6) 1 (-v1) = true then (x_lt (x_wi M (x_r M v0 6) (-v1).toNatClampNeg ((x_i M (x_r M v0 6) (-v1).toNatClampNeg) + (1 : Int32))) (fun M6 => some (v1, M6))) else none)) else none) else none)
set_option maxRecDepth 20000 in
set_option maxHeartbeats 4000000 in
theorem t_X8_refuse (l : Launch) {v0 : Nat} {v1 : Int32} {M : XM} {q : Int32 × XM} (H : f_X8_refuse v0 v1 M = some q) : AW l m_X8_refuse 1 0 0 (x_Ri q) 0 0 0 [some (.ref v0), some (.int v1)] [] M := by
  unfold f_X8_refuse at H
  refine x_iload_n 0 1 dX8_refuse_0 rfl rfl ?_
  refine x_if_ge 1 25 dX8_refuse_1 (by decide) (fun c1 => ?_) (fun c1 => ?_)
  · replace H := x_ifp c1 H
    refine x_iload_n 25 1 dX8_refuse_25 rfl rfl ?_
    cases H
    exact x_iret 26 dX8_refuse_26 .int rfl rfl (Nat.le_of_ble_eq_true rfl) (Nat.le_of_ble_eq_true rfl) ⟨rfl, rfl⟩
  · replace H := x_ifn c1 H
    refine x_iload_n 4 1 dX8_refuse_4 rfl rfl ?_
    refine x_ineg 5 dX8_refuse_5 ?_
    refine x_aload_n 6 0 dX8_refuse_6 rfl rfl ?_
    obtain ⟨h2, H⟩ := x_ckp H
    refine x_getf 7 36 8 6 (.ref (x_r M v0 6)) dX8_refuse_7 lk_366 (by decide) (by decide) rfl (fun _ => rfl) h2 ?_
    obtain ⟨h3, H⟩ := x_ckp H
    refine x_alen 10 1 dX8_refuse_10 h3 (by decide) ?_
    refine x_icmp_ge 11 25 dX8_refuse_11 (by decide) (fun c4 => ?_) (fun c4 => ?_)
    · replace H := x_ifp c4 H
      refine x_iload_n 25 1 dX8_refuse_25 rfl rfl ?_
      cases H
      exact x_iret 26 dX8_refuse_26 .int rfl rfl (Nat.le_of_ble_eq_true rfl) (Nat.le_of_ble_eq_true rfl) ⟨rfl, rfl⟩
    · replace H := x_ifn c4 H
      refine x_aload_n 14 0 dX8_refuse_14 rfl rfl ?_
      refine x_getf 15 36 8 6 (.ref (x_r M v0 6)) dX8_refuse_15 lk_366 (by decide) (by decide) rfl (fun _ => rfl) h2 ?_
      refine x_iload_n 18 1 dX8_refuse_18 rfl rfl ?_
      refine x_ineg 19 dX8_refuse_19 ?_
      refine x_dup2 20 dX8_refuse_20 rfl rfl ?_
      obtain ⟨h5, H⟩ := x_ckp H
      refine x_iald 21 dX8_refuse_21 h5 ?_
      refine x_iconst 22 (1 : Int32) dX8_refuse_22 (by decide) ?_
      refine x_iadd 23 dX8_refuse_23 ?_
      obtain ⟨M6, w7, H⟩ := x_lt_of H
      have h8 : x_tag M6 v0 = 8 + 10 := by rw [w7]; exact h2
      have h9 : x_tag M6 (x_r M v0 6) = 1 := by rw [w7]; exact h3
      have h10 : x_at M6 (x_r M v0 6) 1 (-v1) = true := by rw [w7]; exact h5
      refine x_iast' 24 dX8_refuse_24 h5 w7 ?_
      refine x_iload_n 25 1 dX8_refuse_25 rfl rfl ?_
      cases H
      exact x_iret 26 dX8_refuse_26 .int rfl rfl (Nat.le_of_ble_eq_true rfl) (Nat.le_of_ble_eq_true rfl) ⟨rfl, rfl⟩

theorem ct_X8_refuse (l : Launch) {v0 : Nat} {v1 : Int32} {M : XM} {q : Int32 × XM} (H : f_X8_refuse v0 v1 M = some q) : Ct l m_X8_refuse 1 0 0 [(.ref v0), (.int v1)] M (x_Ri q) := x_met l m_X8_refuse 1 0 0 [(.ref v0), (.int v1)] M (x_Ri q) _ rfl rfl (Nat.le_of_ble_eq_true rfl) (t_X8_refuse l H)
theorem lk_413 : Cond.code yX8_refuse cX8_refuse 2 (some .int) ∈ x_TB := x_tb (k := 413) (by decide +kernel) rfl
theorem lk_410 : Cond.methodLink RX8 86 yX8_refuse ∈ x_TB := x_tb (k := 410) (by decide +kernel) rfl
theorem lk_0 : Cond.selects RX8 yX8_refuse yX8_refuse ∈ x_TB := x_tb (k := 0) (by decide +kernel) rfl
theorem lk_412 : Cond.instanceMethod yX8_refuse ∈ x_TB := x_tb (k := 412) (by decide +kernel) rfl
theorem lk_417 : Cond.code yX6_holdRow cX6_holdRow 3 none ∈ x_TB := x_tb (k := 417) (by decide +kernel) rfl
theorem lk_414 : Cond.methodLink RX8 90 yX6_holdRow ∈ x_TB := x_tb (k := 414) (by decide +kernel) rfl
theorem lk_416 : Cond.selects RX6 yX6_holdRow yX6_holdRow ∈ x_TB := x_tb (k := 416) (by decide +kernel) rfl
theorem lk_415 : Cond.instanceMethod yX6_holdRow ∈ x_TB := x_tb (k := 415) (by decide +kernel) rfl
abbrev m_X8_row : XU := (yX8_row, cX8_row, 4, (some .int))
theorem cn_X8_row : m_X8_row.1.cls ≠ "java/lang/invoke/MethodHandle" ∧ m_X8_row.1.cls ≠ "java/lang/invoke/VarHandle" ∧ (parseMethodDescriptor m_X8_row.1.desc).map (fun q => q.parameters.length) = some 3 := by decide +kernel
def f_X8_row_33 (v0 : Nat) (M : XM) : Option (Int32 × XM) :=
  if x_tag M v0 = 8 + 10 then (x_bd (f_X8_refuse v0 (-6 : Int32) M) (fun r13 M12 => some (r13, M12))) else none
set_option maxRecDepth 20000 in
set_option maxHeartbeats 4000000 in
theorem t_X8_row_33 (l : Launch) {v0 : Nat} {M : XM} {q : Int32 × XM} (H : f_X8_row_33 v0 M = some q) : AW l m_X8_row 3 0 0 (x_Ri q) 0 0 33 [some (.ref v0), none, none, none] [] M := by
  unfold f_X8_row_33 at H
  refine x_aload_n 33 0 dX8_row_33 rfl rfl ?_
  refine x_bipush 34 (-6 : Int32) dX8_row_34 (by decide) ?_
  obtain ⟨h11, H⟩ := x_ckp H
  obtain ⟨r13, M12, e14, H⟩ := x_bd_of H
  refine x_callV 36 86 8 [(.int (-6 : Int32))] [] dX8_row_36 (ct_X8_refuse l e14) lk_410 lk_412 lk_0 (by decide) h11 lk_85 lk_413 ⟨cn_X8_refuse, (by decide), by decide⟩ rfl (Nat.le_of_ble_eq_true rfl) (Nat.le_of_ble_eq_true rfl) (Nat.le_of_ble_eq_true rfl) (x_ri ?_)
  cases H
  exact x_iret 39 dX8_row_39 .int rfl rfl (Nat.le_of_ble_eq_true rfl) (Nat.le_of_ble_eq_true rfl) ⟨rfl, rfl⟩

def f_X8_row_c1 (v0 : Nat) (v1 : Int32) (v2 : Int32) (v3 : Int32) (s0 : Int32) (M : XM) : Option (Int32 × XM) :=
  if s0 = 0 then (if x_tag M v0 = 8 + 10 then (x_bd (f_X8_refuse v0 (-1 : Int32) M) (fun r7 M6 => some (r7, M6))) else none) else (if (0 : Int32) ≤ v3 then (if v2 < 0 then (f_X8_row_33 v0 M) else (if v2 ≤ (3 : Int32) then (if v3 ≤ (160 : Int32) then (if x_tag M v0 = 8 + 10 then (if x_at M (x_r M v0 5) 4 v1 = true then (if x_tag M (x_r M (x_r M v0 5) v1.toNatClampNeg) = 6 + 10 then (x_bv (f_X6_holdRow (x_r M (x_r M v0 5) v1.toNatClampNeg) v2 v3 M) (fun M20 => some ((1 : Int32), M20))) else none) else none) else none) else (if x_tag M v0 = 8 + 10 then (x_bd (f_X8_refuse v0 (-7 : Int32) M) (fun r25 M24 => some (r25, M24))) else none)) else (f_X8_row_33 v0 M))) else (if x_tag M v0 = 8 + 10 then (x_bd (f_X8_refuse v0 (-4 : Int32) M) (fun r29 M28 => some (r29, M28))) else none))
set_option maxRecDepth 20000 in
set_option maxHeartbeats 4000000 in
theorem t_X8_row_c1 (l : Launch) {v0 : Nat} {v1 : Int32} {v2 : Int32} {v3 : Int32} {s0 : Int32} {M : XM} {q : Int32 × XM} (H : f_X8_row_c1 v0 v1 v2 v3 s0 M = some q) : AW l m_X8_row 3 0 0 (x_Ri q) 0 0 4 [some (.ref v0), some (.int v1), some (.int v2), some (.int v3)] [(.int s0)] M := by
  unfold f_X8_row_c1 at H
  refine x_if_ne 4 13 dX8_row_4 (by decide) (fun c4 => ?_) (fun c4 => ?_)
  · replace H := x_ifn c4 H
    refine x_iload_n 13 3 dX8_row_13 rfl rfl ?_
    refine x_if_ge 14 24 dX8_row_14 (by decide) (fun c9 => ?_) (fun c9 => ?_)
    · replace H := x_ifp c9 H
      refine x_iload_n 24 2 dX8_row_24 rfl rfl ?_
      refine x_if_lt 25 33 dX8_row_25 (by decide) (fun c10 => ?_) (fun c10 => ?_)
      · replace H := x_ifp c10 H
        exact x_wk (le_s (le_n (le_n (le_n le_0)))) (t_X8_row_33 l H)
      · replace H := x_ifn c10 H
        refine x_iload_n 28 2 dX8_row_28 rfl rfl ?_
        refine x_iconst 29 (3 : Int32) dX8_row_29 (by decide) ?_
        refine x_icmp_le 30 40 dX8_row_30 (by decide) (fun c15 => ?_) (fun c15 => ?_)
        · replace H := x_ifp c15 H
          refine x_iload_n 40 3 dX8_row_40 rfl rfl ?_
          refine x_sipush 41 (160 : Int32) dX8_row_41 (by decide) ?_
          refine x_icmp_le 44 54 dX8_row_44 (by decide) (fun c16 => ?_) (fun c16 => ?_)
          · replace H := x_ifp c16 H
            refine x_aload_n 54 0 dX8_row_54 rfl rfl ?_
            obtain ⟨h17, H⟩ := x_ckp H
            refine x_getf 55 32 8 5 (.ref (x_r M v0 5)) dX8_row_55 lk_365 (by decide) (by decide) rfl (fun _ => rfl) h17 ?_
            refine x_iload_n 58 1 dX8_row_58 rfl rfl ?_
            obtain ⟨h18, H⟩ := x_ckp H
            refine x_aald4 59 dX8_row_59 h18 ?_
            refine x_iload_n 60 2 dX8_row_60 rfl rfl ?_
            refine x_iload_n 61 3 dX8_row_61 rfl rfl ?_
            obtain ⟨h19, H⟩ := x_ckp H
            obtain ⟨M20, e22, H⟩ := x_bv_of H
            refine x_callV 62 90 6 [(.int v2), (.int v3)] [] dX8_row_62 (ct_X6_holdRow l e22) lk_414 lk_415 lk_416 (by decide) h19 lk_93 lk_417 ⟨cn_X6_holdRow, (by decide), by decide⟩ rfl (Nat.le_of_ble_eq_true rfl) (Nat.le_of_ble_eq_true rfl) (Nat.le_of_ble_eq_true rfl) (x_rv ?_)
            refine x_iconst 65 (1 : Int32) dX8_row_65 (by decide) ?_
            cases H
            exact x_iret 66 dX8_row_66 .int rfl rfl (Nat.le_of_ble_eq_true rfl) (Nat.le_of_ble_eq_true rfl) ⟨rfl, rfl⟩
          · replace H := x_ifn c16 H
            refine x_aload_n 47 0 dX8_row_47 rfl rfl ?_
            refine x_bipush 48 (-7 : Int32) dX8_row_48 (by decide) ?_
            obtain ⟨h23, H⟩ := x_ckp H
            obtain ⟨r25, M24, e26, H⟩ := x_bd_of H
            refine x_callV 50 86 8 [(.int (-7 : Int32))] [] dX8_row_50 (ct_X8_refuse l e26) lk_410 lk_412 lk_0 (by decide) h23 lk_85 lk_413 ⟨cn_X8_refuse, (by decide), by decide⟩ rfl (Nat.le_of_ble_eq_true rfl) (Nat.le_of_ble_eq_true rfl) (Nat.le_of_ble_eq_true rfl) (x_ri ?_)
            cases H
            exact x_iret 53 dX8_row_53 .int rfl rfl (Nat.le_of_ble_eq_true rfl) (Nat.le_of_ble_eq_true rfl) ⟨rfl, rfl⟩
        · replace H := x_ifn c15 H
          exact x_wk (le_s (le_n (le_n (le_n le_0)))) (t_X8_row_33 l H)
    · replace H := x_ifn c9 H
      refine x_aload_n 17 0 dX8_row_17 rfl rfl ?_
      refine x_bipush 18 (-4 : Int32) dX8_row_18 (by decide) ?_
      obtain ⟨h27, H⟩ := x_ckp H
      obtain ⟨r29, M28, e30, H⟩ := x_bd_of H
      refine x_callV 20 86 8 [(.int (-4 : Int32))] [] dX8_row_20 (ct_X8_refuse l e30) lk_410 lk_412 lk_0 (by decide) h27 lk_85 lk_413 ⟨cn_X8_refuse, (by decide), by decide⟩ rfl (Nat.le_of_ble_eq_true rfl) (Nat.le_of_ble_eq_true rfl) (Nat.le_of_ble_eq_true rfl) (x_ri ?_)
      cases H
      exact x_iret 23 dX8_row_23 .int rfl rfl (Nat.le_of_ble_eq_true rfl) (Nat.le_of_ble_eq_true rfl) ⟨rfl, rfl⟩
  · replace H := x_ifp c4 H
    refine x_aload_n 7 0 dX8_row_7 rfl rfl ?_
    refine x_iconst 8 (-1 : Int32) dX8_row_8 (by decide) ?_
    obtain ⟨h5, H⟩ := x_ckp H
    obtain ⟨r7, M6, e8, H⟩ := x_bd_of H
    refine x_callV 9 86 8 [(.int (-1 : Int32))] [] dX8_row_9 (ct_X8_refuse l e8) lk_410 lk_412 lk_0 (by decide) h5 lk_85 lk_413 ⟨cn_X8_refuse, (by decide), by decide⟩ rfl (Nat.le_of_ble_eq_true rfl) (Nat.le_of_ble_eq_true rfl) (Nat.le_of_ble_eq_true rfl) (x_ri ?_)
    cases H
    exact x_iret 12 dX8_row_12 .int rfl rfl (Nat.le_of_ble_eq_true rfl) (Nat.le_of_ble_eq_true rfl) ⟨rfl, rfl⟩

def f_X8_row (v0 : Nat) (v1 : Int32) (v2 : Int32) (v3 : Int32) (M : XM) : Option (Int32 × XM) :=
  x_bd (f_X8_isShelf v1 M) (f_X8_row_c1 v0 v1 v2 v3)
set_option maxRecDepth 20000 in
set_option maxHeartbeats 4000000 in
theorem t_X8_row (l : Launch) {v0 : Nat} {v1 : Int32} {v2 : Int32} {v3 : Int32} {M : XM} {q : Int32 × XM} (H : f_X8_row v0 v1 v2 v3 M = some q) : AW l m_X8_row 3 0 0 (x_Ri q) 0 0 0 [some (.ref v0), some (.int v1), some (.int v2), some (.int v3)] [] M := by
  unfold f_X8_row at H
  refine x_iload_n 0 1 dX8_row_0 rfl rfl ?_
  obtain ⟨r2, M1, e3, H⟩ := x_bd_of H
  refine x_callS 1 82 [(.int v1)] [] dX8_row_1 (ct_X8_isShelf l e3) lk_407 lk_408 lk_85 lk_409 ⟨cn_X8_isShelf, (by decide), by decide⟩ rfl (Nat.le_of_ble_eq_true rfl) (Nat.le_of_ble_eq_true rfl) (Nat.le_of_ble_eq_true rfl) (x_ri ?_)
  exact t_X8_row_c1 l H

theorem ct_X8_row (l : Launch) {v0 : Nat} {v1 : Int32} {v2 : Int32} {v3 : Int32} {M : XM} {q : Int32 × XM} (H : f_X8_row v0 v1 v2 v3 M = some q) : Ct l m_X8_row 3 0 0 [(.ref v0), (.int v1), (.int v2), (.int v3)] M (x_Ri q) := x_met l m_X8_row 3 0 0 [(.ref v0), (.int v1), (.int v2), (.int v3)] M (x_Ri q) _ rfl rfl (Nat.le_of_ble_eq_true rfl) (t_X8_row l H)
