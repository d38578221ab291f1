abbrev m_X4_liar : XU := (yX4_liar, cX4_liar, 3, (some .int))
theorem cn_X4_liar : m_X4_liar.1.cls ≠ "java/lang/invoke/MethodHandle" ∧ m_X4_liar.1.cls ≠ "java/lang/invoke/VarHandle" ∧ (parseMethodDescriptor m_X4_liar.1.desc).map (fun q => q.parameters.length) = some 0 := by decide +kernel
def f_X4_liar_61 (κ12 : Nat → Int32 → XM → Option (Int32 × XM)) (v0 : Nat) (v1 : Int32) (M : XM) : Option (Int32 × XM) :=
  κ12 v0 (v1 + (1 : Int32)) M
set_option maxRecDepth 20000 in
set_option maxHeartbeats 4000000 in
theorem t_X4_liar_61 (l : Launch) {κ12 : Nat → Int32 → XM → Option (Int32 × XM)} {v0 : Nat} {v1 : Int32} {M : XM} {q : Int32 × XM} (hκ12 : ∀ (v0 : Nat) (v1 : Int32) (M : XM), κ12 v0 v1 M = some q → AW l m_X4_liar 2 0 0 (x_Ri q) 0 0 12 [some (.ref v0), some (.int v1), none] [] M) (H : f_X4_liar_61 κ12 v0 v1 M = some q) : AW l m_X4_liar 2 0 0 (x_Ri q) 0 0 61 [some (.ref v0), some (.int v1), none] [] M := by
  unfold f_X4_liar_61 at H
  refine x_iinc 61 1 (v1 + (1 : Int32)) [some (.ref v0), some (.int (v1 + (1 : Int32))), none] dX4_liar_61 rfl (congrArg (fun z : Int32 => v1 + z) (show Int32.ofInt (1) = (1 : Int32) by decide)) rfl (Nat.le_of_ble_eq_true rfl) rfl ?_
  refine x_goto 64 12 dX4_liar_64 (by decide) ?_
  exact hκ12 _ _ _ H

def f_X4_liar_c47 (κ12 : Nat → Int32 → XM → Option (Int32 × XM)) (v0 : Nat) (v1 : Int32) (s0 : Int32) (M : XM) : Option (Int32 × XM) :=
  if x_tag M v0 = 4 + 10 then (if s0 = ((x_i M v0 7) - (1 : Int32)) then (some (v1, M)) else (f_X4_liar_61 κ12 v0 v1 M)) else none
set_option maxRecDepth 20000 in
set_option maxHeartbeats 4000000 in
theorem t_X4_liar_c47 (l : Launch) {κ12 : Nat → Int32 → XM → Option (Int32 × XM)} {v0 : Nat} {v1 : Int32} {s0 : Int32} {M : XM} {q : Int32 × XM} (hκ12 : ∀ (v0 : Nat) (v1 : Int32) (M : XM), κ12 v0 v1 M = some q → AW l m_X4_liar 2 0 0 (x_Ri q) 0 0 12 [some (.ref v0), some (.int v1), none] [] M) (H : f_X4_liar_c47 κ12 v0 v1 s0 M = some q) : AW l m_X4_liar 2 0 0 (x_Ri q) 0 0 50 [some (.ref v0), some (.int v1), none] [(.int s0)] M := by
  unfold f_X4_liar_c47 at H
  refine x_aload_n 50 0 dX4_liar_50 rfl rfl ?_
  obtain ⟨h13, H⟩ := x_ckp H
  refine x_getf 51 45 4 7 (.int (x_i M v0 7)) dX4_liar_51 lk_179 (by decide) (by decide) rfl (fun _ => rfl) h13 ?_
  refine x_iconst 54 (1 : Int32) dX4_liar_54 (by decide) ?_
  refine x_isub 55 dX4_liar_55 ?_
  refine x_icmp_ne 56 61 dX4_liar_56 (by decide) (fun c14 => ?_) (fun c14 => ?_)
  · replace H := x_ifn c14 H
    exact t_X4_liar_61 l hκ12 H
  · replace H := x_ifp c14 H
    refine x_iload_n 59 1 dX4_liar_59 rfl rfl ?_
    cases H
    exact x_iret 60 dX4_liar_60 .int rfl rfl (Nat.le_of_ble_eq_true rfl) (Nat.le_of_ble_eq_true rfl) ⟨rfl, rfl⟩

def f_X4_liar_33 (κ12 : Nat → Int32 → XM → Option (Int32 × XM)) (v0 : Nat) (v1 : Int32) (s0 : Int32) (s1 : Nat) (M : XM) : Option (Int32 × XM) :=
  if x_at M s1 1 s0 = true then (if x_tag M v0 = 4 + 10 then (if x_at M (x_r M v0 6) 1 v1 = true then (if (x_i M (x_r M v0 6) v1.toNatClampNeg) = (x_i M s1 s0.toNatClampNeg) then (f_X4_liar_61 κ12 v0 v1 M) else (x_bd (f_X4_countAlike v0 (x_i M s1 s0.toNatClampNeg) M) (f_X4_liar_c47 κ12 v0 v1))) else none) else none) else none
set_option maxRecDepth 20000 in
set_option maxHeartbeats 4000000 in
theorem t_X4_liar_33 (l : Launch) {κ12 : Nat → Int32 → XM → Option (Int32 × XM)} {v0 : Nat} {v1 : Int32} {s0 : Int32} {s1 : Nat} {M : XM} {q : Int32 × XM} (hκ12 : ∀ (v0 : Nat) (v1 : Int32) (M : XM), κ12 v0 v1 M = some q → AW l m_X4_liar 2 0 0 (x_Ri q) 0 0 12 [some (.ref v0), some (.int v1), none] [] M) (H : f_X4_liar_33 κ12 v0 v1 s0 s1 M = some q) : AW l m_X4_liar 2 0 0 (x_Ri q) 0 0 33 [some (.ref v0), some (.int v1), none] [(.int s0), (.ref s1)] M := by
  unfold f_X4_liar_33 at H
  obtain ⟨h6, H⟩ := x_ckp H
  refine x_iald 33 dX4_liar_33 h6 ?_
  refine x_istore_n 34 2 [some (.ref v0), some (.int v1), some (.int (x_i M s1 s0.toNatClampNeg))] dX4_liar_34 rfl rfl (Nat.le_of_ble_eq_true rfl) rfl ?_
  refine x_aload_n 35 0 dX4_liar_35 rfl rfl ?_
  obtain ⟨h7, H⟩ := x_ckp H
  refine x_getf 36 30 4 6 (.ref (x_r M v0 6)) dX4_liar_36 lk_177 (by decide) (by decide) rfl (fun _ => rfl) h7 ?_
  refine x_iload_n 39 1 dX4_liar_39 rfl rfl ?_
  obtain ⟨h8, H⟩ := x_ckp H
  refine x_iald 40 dX4_liar_40 h8 ?_
  refine x_iload_n 41 2 dX4_liar_41 rfl rfl ?_
  refine x_icmp_eq 42 61 dX4_liar_42 (by decide) (fun c9 => ?_) (fun c9 => ?_)
  · replace H := x_ifp c9 H
    exact x_wk (le_s (le_s (le_n le_0))) (t_X4_liar_61 l hκ12 H)
  · replace H := x_ifn c9 H
    refine x_aload_n 45 0 dX4_liar_45 rfl rfl ?_
    refine x_iload_n 46 2 dX4_liar_46 rfl rfl ?_
    obtain ⟨r11, M10, e12, H⟩ := x_bd_of H
    refine x_callV 47 90 4 [(.int (x_i M s1 s0.toNatClampNeg))] [] dX4_liar_47 (ct_X4_countAlike l e12) lk_915 lk_917 lk_29 (by decide) h7 lk_86 lk_918 ⟨cn_X4_countAlike, (by decide), by decide⟩ rfl (Nat.le_of_ble_eq_true rfl) (Nat.le_of_ble_eq_true rfl) (Nat.le_of_ble_eq_true rfl) (x_ri ?_)
    exact x_wk (le_s (le_s (le_n le_0))) (t_X4_liar_c47 l hκ12 H)

def bd_X4_liar_12 (κ12 : Nat → Int32 → XM → Option (Int32 × XM)) (v0 : Nat) (v1 : Int32) (M : XM) : Option (Int32 × XM) :=
  if x_tag M v0 = 4 + 10 then (if (x_i M v0 7) ≤ v1 then (some ((-1 : Int32), M)) else (if v1 = 0 then (f_X4_liar_33 κ12 v0 v1 (1 : Int32) (x_r M v0 6) M) else (f_X4_liar_33 κ12 v0 v1 (0 : Int32) (x_r M v0 6) M))) else none
set_option maxRecDepth 20000 in
set_option maxHeartbeats 4000000 in
theorem tb_X4_liar_12 (l : Launch) {κ12 : Nat → Int32 → XM → Option (Int32 × XM)} {v0 : Nat} {v1 : Int32} {M : XM} {q : Int32 × XM} (hκ12 : ∀ (v0 : Nat) (v1 : Int32) (M : XM), κ12 v0 v1 M = some q → AW l m_X4_liar 2 0 0 (x_Ri q) 0 0 12 [some (.ref v0), some (.int v1), none] [] M) (H : bd_X4_liar_12 κ12 v0 v1 M = some q) : AW l m_X4_liar 2 0 0 (x_Ri q) 0 0 12 [some (.ref v0), some (.int v1), none] [] M := by
  unfold bd_X4_liar_12 at H
  refine x_iload_n 12 1 dX4_liar_12 rfl rfl ?_
  refine x_aload_n 13 0 dX4_liar_13 rfl rfl ?_
  obtain ⟨h3, H⟩ := x_ckp H
  refine x_getf 14 45 4 7 (.int (x_i M v0 7)) dX4_liar_14 lk_179 (by decide) (by decide) rfl (fun _ => rfl) h3 ?_
  refine x_icmp_ge 17 67 dX4_liar_17 (by decide) (fun c4 => ?_) (fun c4 => ?_)
  · replace H := x_ifp c4 H
    refine x_iconst 67 (-1 : Int32) dX4_liar_67 (by decide) ?_
    cases H
    exact x_iret 68 dX4_liar_68 .int rfl rfl (Nat.le_of_ble_eq_true rfl) (Nat.le_of_ble_eq_true rfl) ⟨rfl, rfl⟩
  · replace H := x_ifn c4 H
    refine x_aload_n 20 0 dX4_liar_20 rfl rfl ?_
    refine x_getf 21 30 4 6 (.ref (x_r M v0 6)) dX4_liar_21 lk_177 (by decide) (by decide) rfl (fun _ => rfl) h3 ?_
    refine x_iload_n 24 1 dX4_liar_24 rfl rfl ?_
    refine x_if_ne 25 32 dX4_liar_25 (by decide) (fun c5 => ?_) (fun c5 => ?_)
    · replace H := x_ifn c5 H
      refine x_iconst 32 (0 : Int32) dX4_liar_32 (by decide) ?_
      exact t_X4_liar_33 l hκ12 H
    · replace H := x_ifp c5 H
      refine x_iconst 28 (1 : Int32) dX4_liar_28 (by decide) ?_
      refine x_goto 29 33 dX4_liar_29 (by decide) ?_
      exact t_X4_liar_33 l hκ12 H

def lp_X4_liar_12 (n : Nat) : Nat → Int32 → XM → Option (Int32 × XM) := x_rec (fun _ _ _ => none) (bd_X4_liar_12) n
theorem t_X4_liar_12 (l : Launch) {q : Int32 × XM} : ∀ (n : Nat) (v0 : Nat) (v1 : Int32) (M : XM), lp_X4_liar_12 n v0 v1 M = some q → AW l m_X4_liar 2 0 0 (x_Ri q) 0 0 12 [some (.ref v0), some (.int v1), none] [] M := by
  intro n
  induction n with
  | zero => intro v0 v1 M H; cases H
  | succ n ih => intro v0 v1 M H; exact tb_X4_liar_12 l ih H
def f_X4_liar (v0 : Nat) (M : XM) : Option (Int32 × XM) :=
  if x_tag M v0 = 4 + 10 then (if (3 : Int32) ≤ (x_i M v0 7) then (lp_X4_liar_12 x_fuel v0 (0 : Int32) M) else (some ((-1 : Int32), M))) else none
set_option maxRecDepth 20000 in
set_option maxHeartbeats 4000000 in
theorem t_X4_liar (l : Launch) {v0 : Nat} {M : XM} {q : Int32 × XM} (H : f_X4_liar v0 M = some q) : AW l m_X4_liar 2 0 0 (x_Ri q) 0 0 0 [some (.ref v0), none, none] [] M := by
  unfold f_X4_liar at H
  refine x_aload_n 0 0 dX4_liar_0 rfl rfl ?_
  obtain ⟨h1, H⟩ := x_ckp H
  refine x_getf 1 45 4 7 (.int (x_i M v0 7)) dX4_liar_1 lk_179 (by decide) (by decide) rfl (fun _ => rfl) h1 ?_
  refine x_iconst 4 (3 : Int32) dX4_liar_4 (by decide) ?_
  refine x_icmp_ge 5 10 dX4_liar_5 (by decide) (fun c2 => ?_) (fun c2 => ?_)
  · replace H := x_ifp c2 H
    refine x_iconst 10 (0 : Int32) dX4_liar_10 (by decide) ?_
    refine x_istore_n 11 1 [some (.ref v0), some (.int (0 : Int32)), none] dX4_liar_11 rfl rfl (Nat.le_of_ble_eq_true rfl) rfl ?_
    exact t_X4_liar_12 l _ _ _ _ H
  · replace H := x_ifn c2 H
    refine x_iconst 8 (-1 : Int32) dX4_liar_8 (by decide) ?_
    cases H
    exact x_iret 9 dX4_liar_9 .int rfl rfl (Nat.le_of_ble_eq_true rfl) (Nat.le_of_ble_eq_true rfl) ⟨rfl, rfl⟩

theorem ct_X4_liar (l : Launch) {v0 : Nat} {M : XM} {q : Int32 × XM} (H : f_X4_liar v0 M = some q) : Ct l m_X4_liar 2 0 0 [(.ref v0)] M (x_Ri q) := x_met l m_X4_liar 2 0 0 [(.ref v0)] M (x_Ri q) _ rfl rfl (Nat.le_of_ble_eq_true rfl) (t_X4_liar l H)
theorem lk_927 : Cond.methodLink RX4 94 Lib.Math.max.name ∈ x_TB := x_tb (k := 927) (by decide +kernel) rfl
abbrev m_X4_spread : XU := (yX4_spread, cX4_spread, 4, (some .int))
theorem cn_X4_spread : m_X4_spread.1.cls ≠ "java/lang/invoke/MethodHandle" ∧ m_X4_spread.1.cls ≠ "java/lang/invoke/VarHandle" ∧ (parseMethodDescriptor m_X4_spread.1.desc).map (fun q => q.parameters.length) = some 0 := by decide +kernel
def bd_X4_spread_25 (κ25 : Nat → Int32 → Int32 → Int32 → XM → Option (Int32 × XM)) (v0 : Nat) (v1 : Int32) (v2 : Int32) (v3 : Int32) (M : XM) : Option (Int32 × XM) :=
  if x_tag M v0 = 4 + 10 then (if (x_i M v0 7) ≤ v3 then (some ((v2 - v1), M)) else (if x_at M (x_r M v0 6) 1 v3 = true then (κ25 v0 (if (x_i M (x_r M v0 6) v3.toNatClampNeg) < v1 then (x_i M (x_r M v0 6) v3.toNatClampNeg) else v1) (if v2 < (x_i M (x_r M v0 6) v3.toNatClampNeg) then (x_i M (x_r M v0 6) v3.toNatClampNeg) else v2) (v3 + (1 : Int32)) M) else none)) else none
set_option maxRecDepth 20000 in
set_option maxHeartbeats 4000000 in
theorem tb_X4_spread_25 (l : Launch) {κ25 : Nat → Int32 → Int32 → Int32 → XM → Option (Int32 × XM)} {v0 : Nat} {v1 : Int32} {v2 : Int32} {v3 : Int32} {M : XM} {q : Int32 × XM} (hκ25 : ∀ (v0 : Nat) (v1 : Int32) (v2 : Int32) (v3 : Int32) (M : XM), κ25 v0 v1 v2 v3 M = some q → AW l m_X4_spread 1 0 0 (x_Ri q) 0 0 25 [some (.ref v0), some (.int v1), some (.int v2), some (.int v3)] [] M) (H : bd_X4_spread_25 κ25 v0 v1 v2 v3 M = some q) : AW l m_X4_spread 1 0 0 (x_Ri q) 0 0 25 [some (.ref v0), some (.int v1), some (.int v2), some (.int v3)] [] M := by
  unfold bd_X4_spread_25 at H
  refine x_iload_n 25 3 dX4_spread_25 rfl rfl ?_
  refine x_aload_n 26 0 dX4_spread_26 rfl rfl ?_
  obtain ⟨h4, H⟩ := x_ckp H
  refine x_getf 27 45 4 7 (.int (x_i M v0 7)) dX4_spread_27 lk_179 (by decide) (by decide) rfl (fun _ => rfl) h4 ?_
  refine x_icmp_ge 30 61 dX4_spread_30 (by decide) (fun c5 => ?_) (fun c5 => ?_)
  · replace H := x_ifp c5 H
    refine x_iload_n 61 2 dX4_spread_61 rfl rfl ?_
    refine x_iload_n 62 1 dX4_spread_62 rfl rfl ?_
    refine x_isub 63 dX4_spread_63 ?_
    cases H
    exact x_iret 64 dX4_spread_64 .int rfl rfl (Nat.le_of_ble_eq_true rfl) (Nat.le_of_ble_eq_true rfl) ⟨rfl, rfl⟩
  · replace H := x_ifn c5 H
    refine x_iload_n 33 1 dX4_spread_33 rfl rfl ?_
    refine x_aload_n 34 0 dX4_spread_34 rfl rfl ?_
    refine x_getf 35 30 4 6 (.ref (x_r M v0 6)) dX4_spread_35 lk_177 (by decide) (by decide) rfl (fun _ => rfl) h4 ?_
    refine x_iload_n 38 3 dX4_spread_38 rfl rfl ?_
    obtain ⟨h6, H⟩ := x_ckp H
    refine x_iald 39 dX4_spread_39 h6 ?_
    refine x_min 40 61 dX4_spread_40 lk_560 lk_561 lk_97 lk_562 rfl (Nat.le_of_ble_eq_true rfl) (by decide) (Nat.le_of_ble_eq_true rfl) (Nat.le_of_ble_eq_true rfl) ?_
    refine x_istore_n 43 1 [some (.ref v0), some (.int (if (x_i M (x_r M v0 6) v3.toNatClampNeg) < v1 then (x_i M (x_r M v0 6) v3.toNatClampNeg) else v1)), some (.int v2), some (.int v3)] dX4_spread_43 rfl rfl (Nat.le_of_ble_eq_true rfl) rfl ?_
    refine x_iload_n 44 2 dX4_spread_44 rfl rfl ?_
    refine x_aload_n 45 0 dX4_spread_45 rfl rfl ?_
    refine x_getf 46 30 4 6 (.ref (x_r M v0 6)) dX4_spread_46 lk_177 (by decide) (by decide) rfl (fun _ => rfl) h4 ?_
    refine x_iload_n 49 3 dX4_spread_49 rfl rfl ?_
    refine x_iald 50 dX4_spread_50 h6 ?_
    refine x_max 51 94 dX4_spread_51 lk_927 lk_660 lk_97 lk_661 rfl (Nat.le_of_ble_eq_true rfl) (by decide) (Nat.le_of_ble_eq_true rfl) (Nat.le_of_ble_eq_true rfl) ?_
    refine x_istore_n 54 2 [some (.ref v0), some (.int (if (x_i M (x_r M v0 6) v3.toNatClampNeg) < v1 then (x_i M (x_r M v0 6) v3.toNatClampNeg) else v1)), some (.int (if v2 < (x_i M (x_r M v0 6) v3.toNatClampNeg) then (x_i M (x_r M v0 6) v3.toNatClampNeg) else v2)), some (.int v3)] dX4_spread_54 rfl rfl (Nat.le_of_ble_eq_true rfl) rfl ?_
    refine x_iinc 55 3 (v3 + (1 : Int32)) [some (.ref v0), some (.int (if (x_i M (x_r M v0 6) v3.toNatClampNeg) < v1 then (x_i M (x_r M v0 6) v3.toNatClampNeg) else v1)), some (.int (if v2 < (x_i M (x_r M v0 6) v3.toNatClampNeg) then (x_i M (x_r M v0 6) v3.toNatClampNeg) else v2)), some (.int (v3 + (1 : Int32)))] dX4_spread_55 rfl (congrArg (fun z : Int32 => v3 + z) (show Int32.ofInt (1) = (1 : Int32) by decide)) rfl (Nat.le_of_ble_eq_true rfl) rfl ?_
    refine x_goto 58 25 dX4_spread_58 (by decide) ?_
    exact hκ25 _ _ _ _ _ H

def lp_X4_spread_25 (n : Nat) : Nat → Int32 → Int32 → Int32 → XM → Option (Int32 × XM) := x_rec (fun _ _ _ _ _ => none) (bd_X4_spread_25) n
theorem t_X4_spread_25 (l : Launch) {q : Int32 × XM} : ∀ (n : Nat) (v0 : Nat) (v1 : Int32) (v2 : Int32) (v3 : Int32) (M : XM), lp_X4_spread_25 n v0 v1 v2 v3 M = some q → AW l m_X4_spread 1 0 0 (x_Ri q) 0 0 25 [some (.ref v0), some (.int v1), some (.int v2), some (.int v3)] [] M := by
  intro n
  induction n with
  | zero => intro v0 v1 v2 v3 M H; cases H
  | succ n ih => intro v0 v1 v2 v3 M H; exact tb_X4_spread_25 l ih H
def f_X4_spread (v0 : Nat) (M : XM) : Option (Int32 × XM) :=
  if x_tag M v0 = 4 + 10 then (if (x_i M v0 7) = 0 then (some ((0 : Int32), M)) else (if x_at M (x_r M v0 6) 1 (0 : Int32) = true then (lp_X4_spread_25 x_fuel v0 (x_i M (x_r M v0 6) (0 : Int32).toNatClampNeg) (x_i M (x_r M v0 6) (0 : Int32).toNatClampNeg) (1 : Int32) M) else none)) else none
set_option maxRecDepth 20000 in
set_option maxHeartbeats 4000000 in
theorem t_X4_spread (l : Launch) {v0 : Nat} {M : XM} {q : Int32 × XM} (H : f_X4_spread v0 M = some q) : AW l m_X4_spread 1 0 0 (x_Ri q) 0 0 0 [some (.ref v0), none, none, none] [] M := by
  unfold f_X4_spread at H
  refine x_aload_n 0 0 dX4_spread_0 rfl rfl ?_
  obtain ⟨h1, H⟩ := x_ckp H
  refine x_getf 1 45 4 7 (.int (x_i M v0 7)) dX4_spread_1 lk_179 (by decide) (by decide) rfl (fun _ => rfl) h1 ?_
  refine x_if_ne 4 9 dX4_spread_4 (by decide) (fun c2 => ?_) (fun c2 => ?_)
  · replace H := x_ifn c2 H
    refine x_aload_n 9 0 dX4_spread_9 rfl rfl ?_
    refine x_getf 10 30 4 6 (.ref (x_r M v0 6)) dX4_spread_10 lk_177 (by decide) (by decide) rfl (fun _ => rfl) h1 ?_
    refine x_iconst 13 (0 : Int32) dX4_spread_13 (by decide) ?_
    obtain ⟨h3, H⟩ := x_ckp H
    refine x_iald 14 dX4_spread_14 h3 ?_
    refine x_istore_n 15 1 [some (.ref v0), some (.int (x_i M (x_r M v0 6) (0 : Int32).toNatClampNeg)), none, none] dX4_spread_15 rfl rfl (Nat.le_of_ble_eq_true rfl) rfl ?_
    refine x_aload_n 16 0 dX4_spread_16 rfl rfl ?_
    refine x_getf 17 30 4 6 (.ref (x_r M v0 6)) dX4_spread_17 lk_177 (by decide) (by decide) rfl (fun _ => rfl) h1 ?_
    refine x_iconst 20 (0 : Int32) dX4_spread_20 (by decide) ?_
    refine x_iald 21 dX4_spread_21 h3 ?_
    refine x_istore_n 22 2 [some (.ref v0), some (.int (x_i M (x_r M v0 6) (0 : Int32).toNatClampNeg)), some (.int (x_i M (x_r M v0 6) (0 : Int32).toNatClampNeg)), none] dX4_spread_22 rfl rfl (Nat.le_of_ble_eq_true rfl) rfl ?_
    refine x_iconst 23 (1 : Int32) dX4_spread_23 (by decide) ?_
    refine x_istore_n 24 3 [some (.ref v0), some (.int (x_i M (x_r M v0 6) (0 : Int32).toNatClampNeg)), some (.int (x_i M (x_r M v0 6) (0 : Int32).toNatClampNeg)), some (.int (1 : Int32))] dX4_spread_24 rfl rfl (Nat.le_of_ble_eq_true rfl) rfl ?_
    exact t_X4_spread_25 l _ _ _ _ _ _ H
  · replace H := x_ifp c2 H
    refine x_iconst 7 (0 : Int32) dX4_spread_7 (by decide) ?_
    cases H
    exact x_iret 8 dX4_spread_8 .int rfl rfl (Nat.le_of_ble_eq_true rfl) (Nat.le_of_ble_eq_true rfl) ⟨rfl, rfl⟩

theorem ct_X4_spread (l : Launch) {v0 : Nat} {M : XM} {q : Int32 × XM} (H : f_X4_spread v0 M = some q) : Ct l m_X4_spread 1 0 0 [(.ref v0)] M (x_Ri q) := x_met l m_X4_spread 1 0 0 [(.ref v0)] M (x_Ri q) _ rfl rfl (Nat.le_of_ble_eq_true rfl) (t_X4_spread l H)
theorem lk_211 : Cond.methodLink RX5 3 Lib.objectInit ∈ x_TB := x_tb (k := 211) (by decide +kernel) rfl
theorem lk_214 : Cond.fieldLink RX5 9 RX5 "fault" "I" ∈ x_TB := x_tb (k := 214) (by decide +kernel) rfl
theorem lk_212 : Cond.classLink RX5 15 RX4 ∈ x_TB := x_tb (k := 212) (by decide +kernel) rfl
theorem lk_111 : Cond.instantiable RX4 10 ∈ x_TB := x_tb (k := 111) (by decide +kernel) rfl
theorem lk_114 : Cond.code yX4_init cX4_init 2 none ∈ x_TB := x_tb (k := 114) (by decide +kernel) rfl
theorem lk_213 : Cond.methodLink RX5 17 yX4_init ∈ x_TB := x_tb (k := 213) (by decide +kernel) rfl
theorem lk_113 : Cond.instanceMethod yX4_init ∈ x_TB := x_tb (k := 113) (by decide +kernel) rfl
theorem lk_216 : Cond.fieldLink RX5 18 RX5 "over" "LWhatDidYouSay$Room;" ∈ x_TB := x_tb (k := 216) (by decide +kernel) rfl
theorem lk_218 : Cond.fieldLink RX5 22 RX5 "letters" "[I" ∈ x_TB := x_tb (k := 218) (by decide +kernel) rfl
abbrev m_X5_init : XU := (yX5_init, cX5_init, 1, none)
theorem cn_X5_init : m_X5_init.1.cls ≠ "java/lang/invoke/MethodHandle" ∧ m_X5_init.1.cls ≠ "java/lang/invoke/VarHandle" ∧ (parseMethodDescriptor m_X5_init.1.desc).map (fun q => q.parameters.length) = some 0 := by decide +kernel
def f_X5_init_c14 (v0 : Nat) (s0 : Nat) (s1 : Nat) (M : XM) : Option XM :=
  if x_tag M s1 = 5 + 10 then (x_lt (x_wr M s1 1 s0) (fun M14 => x_al M14 1 160 (fun a18 M17 => if x_tag M17 v0 = 5 + 10 then (x_lt (x_wr M17 v0 2 a18) (fun M23 => some M23)) else none))) else none
set_option maxRecDepth 20000 in
set_option maxHeartbeats 4000000 in
theorem t_X5_init_c14 (l : Launch) {v0 : Nat} {s0 : Nat} {s1 : Nat} {M : XM} {q : XM} (H : f_X5_init_c14 v0 s0 s1 M = some q) : AW l m_X5_init 3 11 219 (x_Rv q) 10 59 17 [some (.ref v0)] [(.ref s0), (.ref s1)] M := by
  unfold f_X5_init_c14 at H
  obtain ⟨h13, H⟩ := x_ckp H
  obtain ⟨M14, w15, H⟩ := x_lt_of H
  have h16 : x_tag M14 s1 = 5 + 10 := by rw [w15]; exact h13
  refine x_putR' 17 18 5 1 dX5_init_17 lk_216 (by decide) (by decide) rfl (Or.inl ⟨_, rfl⟩) (Or.inr ⟨rfl, rfl⟩) h13 w15 ?_
  refine x_aload_n 20 0 dX5_init_20 rfl rfl ?_
  refine x_sipush 21 (160 : Int32) dX5_init_21 (by decide) ?_
  obtain ⟨a18, M17, w19, w20, H⟩ := x_al_of H
  refine x_newI' 24 160 dX5_init_24 lk_153 (by decide) (by decide) (by decide) (Nat.le_of_ble_eq_true rfl) (Nat.le_of_ble_eq_true rfl) w19 w20 ?_
  have h21 : x_tag M17 a18 = 1 := x_al_tag w19 w20
  change AW _ _ _ _ _ _ 11 219 _ _ _ _
  obtain ⟨h22, H⟩ := x_ckp H
  obtain ⟨M23, w24, H⟩ := x_lt_of H
  have h25 : x_tag M23 a18 = 1 := by rw [w24]; exact h21
  have h26 : x_tag M23 v0 = 5 + 10 := by rw [w24]; exact h22
  refine x_putR' 26 22 5 2 dX5_init_26 lk_218 (by decide) (by decide) rfl (Or.inr ⟨_, rfl⟩) (Or.inr ⟨rfl, rfl⟩) h22 w24 ?_
  cases H
  exact x_vret 29 dX5_init_29 rfl (Nat.le_of_ble_eq_true rfl) (Nat.le_of_ble_eq_true rfl) ⟨rfl, rfl⟩

def f_X5_init (v0 : Nat) (M : XM) : Option XM :=
  if x_tag M v0 = 5 + 10 then (x_lt (x_wi M v0 0 (-1 : Int32)) (fun M2 => x_al M2 (4 + 10) 0 (fun a6 M5 => x_bv (f_X4_init a6 M5) (f_X5_init_c14 v0 a6 v0)))) else none
set_option maxRecDepth 20000 in
set_option maxHeartbeats 4000000 in
theorem t_X5_init (l : Launch) {v0 : Nat} {M : XM} {q : XM} (H : f_X5_init v0 M = some q) : AW l m_X5_init 3 11 219 (x_Rv q) 0 0 0 [some (.ref v0)] [] M := by
  unfold f_X5_init at H
  refine x_aload_n 0 0 dX5_init_0 rfl rfl ?_
  obtain ⟨h1, H⟩ := x_ckp H
  refine x_objInit 1 3 dX5_init_1 lk_211 lk_108 lk_109 h1 rfl (Nat.le_of_ble_eq_true rfl) (by decide) ?_
  refine x_aload_n 4 0 dX5_init_4 rfl rfl ?_
  refine x_iconst 5 (-1 : Int32) dX5_init_5 (by decide) ?_
  obtain ⟨M2, w3, H⟩ := x_lt_of H
  have h4 : x_tag M2 v0 = 5 + 10 := by rw [w3]; exact h1
  refine x_putI' 6 9 5 0 dX5_init_6 lk_214 (by decide) (by decide) rfl (Or.inl rfl) (Or.inl rfl) h1 w3 ?_
  refine x_aload_n 9 0 dX5_init_9 rfl rfl ?_
  obtain ⟨a6, M5, w7, w8, H⟩ := x_al_of H
  refine x_newc' 10 15 4 dX5_init_10 (by decide) lk_212 lk_111 lk_86 (Nat.le_of_ble_eq_true rfl) (Nat.le_of_ble_eq_true rfl) w7 w8 ?_
  have h9 : x_tag M5 a6 = 4 + 10 := x_al_tag w7 w8
  change AW _ _ _ _ _ _ 1 10 _ _ _ _
  refine x_dup 13 dX5_init_13 rfl ?_
  obtain ⟨M10, e12, H⟩ := x_bv_of H
  refine x_callI 14 17 [] [(.ref a6), (.ref v0)] dX5_init_14 (ct_X4_init l e12) lk_213 rfl rfl lk_113 h9 lk_86 lk_114 ⟨cn_X4_init, (by decide), by decide⟩ rfl (Nat.le_of_ble_eq_true rfl) (Nat.le_of_ble_eq_true rfl) (Nat.le_of_ble_eq_true rfl) (x_rv ?_)
  change AW _ _ _ _ _ _ 10 59 _ _ _ _
  exact t_X5_init_c14 l H

theorem ct_X5_init (l : Launch) {v0 : Nat} {M : XM} {q : XM} (H : f_X5_init v0 M = some q) : Ct l m_X5_init 3 11 219 [(.ref v0)] M (x_Rv q) := x_met l m_X5_init 3 11 219 [(.ref v0)] M (x_Rv q) _ rfl rfl (Nat.le_of_ble_eq_true rfl) (t_X5_init l H)
theorem lk_578 : Cond.code yX4_becomeLike cX4_becomeLike 3 none ∈ x_TB := x_tb (k := 578) (by decide +kernel) rfl
theorem lk_575 : Cond.methodLink RX5 26 yX4_becomeLike ∈ x_TB := x_tb (k := 575) (by decide +kernel) rfl
theorem lk_577 : Cond.selects RX4 yX4_becomeLike yX4_becomeLike ∈ x_TB := x_tb (k := 577) (by decide +kernel) rfl
theorem lk_576 : Cond.instanceMethod yX4_becomeLike ∈ x_TB := x_tb (k := 576) (by decide +kernel) rfl
theorem lk_346 : Cond.fieldLink RX5 30 RX6 "length" "I" ∈ x_TB := x_tb (k := 346) (by decide +kernel) rfl
theorem lk_583 : Cond.methodLink RX5 35 Lib.Math.min.name ∈ x_TB := x_tb (k := 583) (by decide +kernel) rfl
theorem lk_219 : Cond.fieldLink RX5 41 RX5 "length" "I" ∈ x_TB := x_tb (k := 219) (by decide +kernel) rfl
theorem lk_220 : Cond.fieldLink RX5 46 RX5 "place" "I" ∈ x_TB := x_tb (k := 220) (by decide +kernel) rfl
abbrev m_X5_nameOf : XU := (yX5_nameOf, cX5_nameOf, 1, (some (.object "java/lang/String")))
theorem cn_X5_nameOf : m_X5_nameOf.1.cls ≠ "java/lang/invoke/MethodHandle" ∧ m_X5_nameOf.1.cls ≠ "java/lang/invoke/VarHandle" ∧ (parseMethodDescriptor m_X5_nameOf.1.desc).map (fun q => q.parameters.length) = some 1 := by decide +kernel
def f_X5_nameOf (v0 : Int32) (M : XM) : Option (Nat × XM) :=
  if v0 = (0 : Int32) then (some (5, M)) else if v0 = (1 : Int32) then (some (6, M)) else if v0 = (2 : Int32) then (some (7, M)) else if v0 = (3 : Int32) then (some (8, M)) else if v0 = (4 : Int32) then (some (9, M)) else if v0 = (5 : Int32) then (some (10, M)) else some (11, M)
set_option maxRecDepth 20000 in
set_option maxHeartbeats 4000000 in
theorem t_X5_nameOf (l : Launch) {v0 : Int32} {M : XM} {q : Nat × XM} (H : f_X5_nameOf v0 M = some q) : AW l m_X5_nameOf 1 0 0 (x_Ra q) 0 0 0 [some (.int v0)] [] M := by
  unfold f_X5_nameOf at H
  refine x_iload_n 0 0 dX5_nameOf_0 rfl rfl ?_
  by_cases c1 : v0 = (0 : Int32)
  · replace H := x_ifp c1 H
    refine x_tableIn (off := 39) 1 40 dX5_nameOf_1 (by rw [c1]; decide) (by rw [c1]; decide) (by rw [c1]; rfl) (by decide) ?_
    refine x_ldcS 40 137 0 dX5_nameOf_40 (by decide) (by decide) rfl ?_
    cases H
    exact x_aret 42 dX5_nameOf_42 (.object "java/lang/String") rfl (Or.inl ⟨_, rfl⟩) (Nat.le_of_ble_eq_true rfl) (Nat.le_of_ble_eq_true rfl) ⟨rfl, rfl⟩
  · replace H := x_ifn c1 H
    by_cases c2 : v0 = (1 : Int32)
    · replace H := x_ifp c2 H
      refine x_tableIn (off := 42) 1 43 dX5_nameOf_1 (by rw [c2]; decide) (by rw [c2]; decide) (by rw [c2]; rfl) (by decide) ?_
      refine x_ldcS 43 139 1 dX5_nameOf_43 (by decide) (by decide) rfl ?_
      cases H
      exact x_aret 45 dX5_nameOf_45 (.object "java/lang/String") rfl (Or.inl ⟨_, rfl⟩) (Nat.le_of_ble_eq_true rfl) (Nat.le_of_ble_eq_true rfl) ⟨rfl, rfl⟩
    · replace H := x_ifn c2 H
      by_cases c3 : v0 = (2 : Int32)
      · replace H := x_ifp c3 H
        refine x_tableIn (off := 45) 1 46 dX5_nameOf_1 (by rw [c3]; decide) (by rw [c3]; decide) (by rw [c3]; rfl) (by decide) ?_
        refine x_ldcS 46 141 2 dX5_nameOf_46 (by decide) (by decide) rfl ?_
        cases H
        exact x_aret 48 dX5_nameOf_48 (.object "java/lang/String") rfl (Or.inl ⟨_, rfl⟩) (Nat.le_of_ble_eq_true rfl) (Nat.le_of_ble_eq_true rfl) ⟨rfl, rfl⟩
      · replace H := x_ifn c3 H
        by_cases c4 : v0 = (3 : Int32)
        · replace H := x_ifp c4 H
          refine x_tableIn (off := 48) 1 49 dX5_nameOf_1 (by rw [c4]; decide) (by rw [c4]; decide) (by rw [c4]; rfl) (by decide) ?_
          refine x_ldcS 49 143 3 dX5_nameOf_49 (by decide) (by decide) rfl ?_
          cases H
          exact x_aret 51 dX5_nameOf_51 (.object "java/lang/String") rfl (Or.inl ⟨_, rfl⟩) (Nat.le_of_ble_eq_true rfl) (Nat.le_of_ble_eq_true rfl) ⟨rfl, rfl⟩
        · replace H := x_ifn c4 H
          by_cases c5 : v0 = (4 : Int32)
          · replace H := x_ifp c5 H
            refine x_tableIn (off := 51) 1 52 dX5_nameOf_1 (by rw [c5]; decide) (by rw [c5]; decide) (by rw [c5]; rfl) (by decide) ?_
            refine x_ldcS 52 145 4 dX5_nameOf_52 (by decide) (by decide) rfl ?_
            cases H
            exact x_aret 54 dX5_nameOf_54 (.object "java/lang/String") rfl (Or.inl ⟨_, rfl⟩) (Nat.le_of_ble_eq_true rfl) (Nat.le_of_ble_eq_true rfl) ⟨rfl, rfl⟩
          · replace H := x_ifn c5 H
            by_cases c6 : v0 = (5 : Int32)
            · replace H := x_ifp c6 H
              refine x_tableIn (off := 54) 1 55 dX5_nameOf_1 (by rw [c6]; decide) (by rw [c6]; decide) (by rw [c6]; rfl) (by decide) ?_
              refine x_ldcS 55 147 5 dX5_nameOf_55 (by decide) (by decide) rfl ?_
              cases H
              exact x_aret 57 dX5_nameOf_57 (.object "java/lang/String") rfl (Or.inl ⟨_, rfl⟩) (Nat.le_of_ble_eq_true rfl) (Nat.le_of_ble_eq_true rfl) ⟨rfl, rfl⟩
            · replace H := x_ifn c6 H
              refine x_tableOut 1 58 dX5_nameOf_1 (by have n0 := lv_neT (a := 0) c1 (by decide); have n1 := lv_neT (a := 1) c2 (by decide); have n2 := lv_neT (a := 2) c3 (by decide); have n3 := lv_neT (a := 3) c4 (by decide); have n4 := lv_neT (a := 4) c5 (by decide); have n5 := lv_neT (a := 5) c6 (by decide); omega) (by decide) ?_
              refine x_ldcS 58 149 6 dX5_nameOf_58 (by decide) (by decide) rfl ?_
              cases H
              exact x_aret 60 dX5_nameOf_60 (.object "java/lang/String") rfl (Or.inl ⟨_, rfl⟩) (Nat.le_of_ble_eq_true rfl) (Nat.le_of_ble_eq_true rfl) ⟨rfl, rfl⟩

theorem ct_X5_nameOf (l : Launch) {v0 : Int32} {M : XM} {q : Nat × XM} (H : f_X5_nameOf v0 M = some q) : Ct l m_X5_nameOf 1 0 0 [(.int v0)] M (x_Ra q) := x_met l m_X5_nameOf 1 0 0 [(.int v0)] M (x_Ra q) _ rfl rfl (Nat.le_of_ble_eq_true rfl) (t_X5_nameOf l H)
theorem lk_88 : Cond.initialized RX5 ∈ x_TB := x_tb (k := 88) (by decide +kernel) rfl
theorem lk_599 : Cond.code yX5_nameOf cX5_nameOf 1 (some (.object "java/lang/String")) ∈ x_TB := x_tb (k := 599) (by decide +kernel) rfl
theorem lk_597 : Cond.methodLink RX5 118 yX5_nameOf ∈ x_TB := x_tb (k := 597) (by decide +kernel) rfl
theorem lk_598 : Cond.static yX5_nameOf ∈ x_TB := x_tb (k := 598) (by decide +kernel) rfl
theorem lk_1514 : Cond.fieldLink RJ0 9 "java/lang/String" "value" "[B" ∈ x_TB := x_tb (k := 1514) (by decide +kernel) rfl
theorem lk_619 : Cond.fieldLink RJ0 38 "java/lang/String" "COMPACT_STRINGS" "Z" ∈ x_TB := x_tb (k := 619) (by decide +kernel) rfl
theorem lk_1515 : Cond.fieldLink RJ0 15 "java/lang/String" "coder" "B" ∈ x_TB := x_tb (k := 1515) (by decide +kernel) rfl
abbrev m_J0_coder_7d493 : XU := (yJ0_coder_7d493, cJ0_coder_7d493, 1, (some .byte))
theorem cn_J0_coder_7d493 : m_J0_coder_7d493.1.cls ≠ "java/lang/invoke/MethodHandle" ∧ m_J0_coder_7d493.1.cls ≠ "java/lang/invoke/VarHandle" ∧ (parseMethodDescriptor m_J0_coder_7d493.1.desc).map (fun q => q.parameters.length) = some 0 := by decide +kernel
def f_J0_coder_7d493 (v0 : Nat) (M : XM) : Option (Int32 × XM) :=
  if x_tag M v0 = 7 then (if v0 < 20 then (some ((0 : Int32), M)) else none) else none
set_option maxRecDepth 20000 in
set_option maxHeartbeats 4000000 in
theorem t_J0_coder_7d493 (l : Launch) {v0 : Nat} {M : XM} {q : Int32 × XM} (H : f_J0_coder_7d493 v0 M = some q) : AW l m_J0_coder_7d493 1 0 0 (x_Ri q) 0 0 0 [some (.ref v0)] [] M := by
  unfold f_J0_coder_7d493 at H
  refine x_getsC 0 38 dJ0_coder_7d493_0 lk_619 ?_
  refine x_if_eq 3 13 dJ0_coder_7d493_3 (by decide) (fun z => absurd z (by decide)) (fun _ => ?_)
  refine x_aload_n 6 0 dJ0_coder_7d493_6 rfl rfl ?_
  obtain ⟨h1, H⟩ := x_ckp H
  obtain ⟨h2, H⟩ := x_ckp H
  refine x_getCod 7 15 dJ0_coder_7d493_7 lk_1515 h1 h2 ?_
  refine x_goto 10 14 dJ0_coder_7d493_10 (by decide) ?_
  cases H
  exact x_iret 14 dJ0_coder_7d493_14 .byte rfl rfl (Nat.le_of_ble_eq_true rfl) (Nat.le_of_ble_eq_true rfl) ⟨rfl, rfl⟩

theorem ct_J0_coder_7d493 (l : Launch) {v0 : Nat} {M : XM} {q : Int32 × XM} (H : f_J0_coder_7d493 v0 M = some q) : Ct l m_J0_coder_7d493 1 0 0 [(.ref v0)] M (x_Ri q) := x_met l m_J0_coder_7d493 1 0 0 [(.ref v0)] M (x_Ri q) _ rfl rfl (Nat.le_of_ble_eq_true rfl) (t_J0_coder_7d493 l H)
theorem lk_98 : Cond.initialized RJ0 ∈ x_TB := x_tb (k := 98) (by decide +kernel) rfl
theorem lk_618 : Cond.code yJ0_coder_7d493 cJ0_coder_7d493 1 (some .byte) ∈ x_TB := x_tb (k := 618) (by decide +kernel) rfl
theorem lk_615 : Cond.methodLink RJ0 335 yJ0_coder_7d493 ∈ x_TB := x_tb (k := 615) (by decide +kernel) rfl
theorem lk_617 : Cond.selects RJ0 yJ0_coder_7d493 yJ0_coder_7d493 ∈ x_TB := x_tb (k := 617) (by decide +kernel) rfl
theorem lk_616 : Cond.instanceMethod yJ0_coder_7d493 ∈ x_TB := x_tb (k := 616) (by decide +kernel) rfl
abbrev m_J0_length_8abf5 : XU := (yJ0_length_8abf5, cJ0_length_8abf5, 1, (some .int))
theorem cn_J0_length_8abf5 : m_J0_length_8abf5.1.cls ≠ "java/lang/invoke/MethodHandle" ∧ m_J0_length_8abf5.1.cls ≠ "java/lang/invoke/VarHandle" ∧ (parseMethodDescriptor m_J0_length_8abf5.1.desc).map (fun q => q.parameters.length) = some 0 := by decide +kernel
def f_J0_length_8abf5_c6 (s1 : Int32) (s0 : Int32) (M : XM) : Option (Int32 × XM) :=
  some ((s1 >>> (s0 &&& 31)), M)
set_option maxRecDepth 20000 in
set_option maxHeartbeats 4000000 in
theorem t_J0_length_8abf5_c6 (l : Launch) {s1 : Int32} {s0 : Int32} {M : XM} {q : Int32 × XM} (H : f_J0_length_8abf5_c6 s1 s0 M = some q) : AW l m_J0_length_8abf5 2 0 0 (x_Ri q) 0 0 9 [none] [(.int s0), (.int s1)] M := by
  unfold f_J0_length_8abf5_c6 at H
  refine x_ishr 9 dJ0_length_8abf5_9 ?_
  cases H
  exact x_iret 10 dJ0_length_8abf5_10 .int rfl rfl (Nat.le_of_ble_eq_true rfl) (Nat.le_of_ble_eq_true rfl) ⟨rfl, rfl⟩

def f_J0_length_8abf5 (v0 : Nat) (M : XM) : Option (Int32 × XM) :=
  if x_tag M v0 = 7 then (if v0 < 20 then (if x_tag M (v0 + 7) = 6 then (if (v0 + 7) < 20 then (x_bd (f_J0_coder_7d493 v0 M) (f_J0_length_8abf5_c6 (Int32.ofNat (x_len M (v0 + 7))))) else none) else none) else none) else none
set_option maxRecDepth 20000 in
set_option maxHeartbeats 4000000 in
theorem t_J0_length_8abf5 (l : Launch) {v0 : Nat} {M : XM} {q : Int32 × XM} (H : f_J0_length_8abf5 v0 M = some q) : AW l m_J0_length_8abf5 2 0 0 (x_Ri q) 0 0 0 [some (.ref v0)] [] M := by
  unfold f_J0_length_8abf5 at H
  refine x_aload_n 0 0 dJ0_length_8abf5_0 rfl rfl ?_
  obtain ⟨h1, H⟩ := x_ckp H
  obtain ⟨h2, H⟩ := x_ckp H
  refine x_getVal 1 9 dJ0_length_8abf5_1 lk_1514 h1 h2 ?_
  obtain ⟨h3, H⟩ := x_ckp H
  obtain ⟨h4, H⟩ := x_ckp H
  refine x_balen 4 dJ0_length_8abf5_4 h3 h4 ?_
  refine x_aload_n 5 0 dJ0_length_8abf5_5 rfl rfl ?_
  obtain ⟨r6, M5, e7, H⟩ := x_bd_of H
  refine x_callVS 6 335 [] [(.int (Int32.ofNat (x_len M (v0 + 7))))] dJ0_length_8abf5_6 (ct_J0_coder_7d493 l e7) lk_615 lk_616 lk_617 h1 h2 lk_98 lk_618 ⟨cn_J0_coder_7d493, (by decide), by decide⟩ rfl (Nat.le_of_ble_eq_true rfl) (Nat.le_of_ble_eq_true rfl) (Nat.le_of_ble_eq_true rfl) (x_ri ?_)
  exact x_wk (le_n le_0) (t_J0_length_8abf5_c6 l H)

theorem ct_J0_length_8abf5 (l : Launch) {v0 : Nat} {M : XM} {q : Int32 × XM} (H : f_J0_length_8abf5 v0 M = some q) : Ct l m_J0_length_8abf5 2 0 0 [(.ref v0)] M (x_Ri q) := x_met l m_J0_length_8abf5 2 0 0 [(.ref v0)] M (x_Ri q) _ rfl rfl (Nat.le_of_ble_eq_true rfl) (t_J0_length_8abf5 l H)
theorem lk_614 : Cond.code yJ0_length_8abf5 cJ0_length_8abf5 1 (some .int) ∈ x_TB := x_tb (k := 614) (by decide +kernel) rfl
theorem lk_611 : Cond.methodLink RX5 126 yJ0_length_8abf5 ∈ x_TB := x_tb (k := 611) (by decide +kernel) rfl
theorem lk_613 : Cond.selects RJ0 yJ0_length_8abf5 yJ0_length_8abf5 ∈ x_TB := x_tb (k := 613) (by decide +kernel) rfl
theorem lk_612 : Cond.instanceMethod yJ0_length_8abf5 ∈ x_TB := x_tb (k := 612) (by decide +kernel) rfl
abbrev m_J0_isLatin1_aae02 : XU := (yJ0_isLatin1_aae02, cJ0_isLatin1_aae02, 1, (some .boolean))
theorem cn_J0_isLatin1_aae02 : m_J0_isLatin1_aae02.1.cls ≠ "java/lang/invoke/MethodHandle" ∧ m_J0_isLatin1_aae02.1.cls ≠ "java/lang/invoke/VarHandle" ∧ (parseMethodDescriptor m_J0_isLatin1_aae02.1.desc).map (fun q => q.parameters.length) = some 0 := by decide +kernel
def f_J0_isLatin1_aae02 (v0 : Nat) (M : XM) : Option (Int32 × XM) :=
  if x_tag M v0 = 7 then (if v0 < 20 then (some ((1 : Int32), M)) else none) else none
set_option maxRecDepth 20000 in
set_option maxHeartbeats 4000000 in
theorem t_J0_isLatin1_aae02 (l : Launch) {v0 : Nat} {M : XM} {q : Int32 × XM} (H : f_J0_isLatin1_aae02 v0 M = some q) : AW l m_J0_isLatin1_aae02 1 0 0 (x_Ri q) 0 0 0 [some (.ref v0)] [] M := by
  unfold f_J0_isLatin1_aae02 at H
  refine x_getsC 0 38 dJ0_isLatin1_aae02_0 lk_619 ?_
  refine x_if_eq 3 17 dJ0_isLatin1_aae02_3 (by decide) (fun z => absurd z (by decide)) (fun _ => ?_)
  refine x_aload_n 6 0 dJ0_isLatin1_aae02_6 rfl rfl ?_
  obtain ⟨h1, H⟩ := x_ckp H
  obtain ⟨h2, H⟩ := x_ckp H
  refine x_getCod 7 15 dJ0_isLatin1_aae02_7 lk_1515 h1 h2 ?_
  refine x_if_ne 10 17 dJ0_isLatin1_aae02_10 (by decide) (fun z => absurd (by decide) z) (fun _ => ?_)
  refine x_iconst 13 (1 : Int32) dJ0_isLatin1_aae02_13 (by decide) ?_
  refine x_goto 14 18 dJ0_isLatin1_aae02_14 (by decide) ?_
  cases H
  exact x_iret 18 dJ0_isLatin1_aae02_18 .boolean rfl rfl (Nat.le_of_ble_eq_true rfl) (Nat.le_of_ble_eq_true rfl) ⟨rfl, rfl⟩

theorem ct_J0_isLatin1_aae02 (l : Launch) {v0 : Nat} {M : XM} {q : Int32 × XM} (H : f_J0_isLatin1_aae02 v0 M = some q) : Ct l m_J0_isLatin1_aae02 1 0 0 [(.ref v0)] M (x_Ri q) := x_met l m_J0_isLatin1_aae02 1 0 0 [(.ref v0)] M (x_Ri q) _ rfl rfl (Nat.le_of_ble_eq_true rfl) (t_J0_isLatin1_aae02 l H)
theorem lk_628 : Cond.code yJ0_isLatin1_aae02 cJ0_isLatin1_aae02 1 (some .boolean) ∈ x_TB := x_tb (k := 628) (by decide +kernel) rfl
theorem lk_625 : Cond.methodLink RJ0 492 yJ0_isLatin1_aae02 ∈ x_TB := x_tb (k := 625) (by decide +kernel) rfl
theorem lk_627 : Cond.selects RJ0 yJ0_isLatin1_aae02 yJ0_isLatin1_aae02 ∈ x_TB := x_tb (k := 627) (by decide +kernel) rfl
theorem lk_626 : Cond.instanceMethod yJ0_isLatin1_aae02 ∈ x_TB := x_tb (k := 626) (by decide +kernel) rfl
theorem lk_635 : Cond.fieldLink RJ0 1053 "jdk/internal/util/Preconditions" "SIOOBE_FORMATTER" "Ljava/util/function/BiFunction;" ∈ x_TB := x_tb (k := 635) (by decide +kernel) rfl
abbrev m_J3_checkIndex_8e157 : XU := (yJ3_checkIndex_8e157, cJ3_checkIndex_8e157, 3, (some .int))
theorem cn_J3_checkIndex_8e157 : m_J3_checkIndex_8e157.1.cls ≠ "java/lang/invoke/MethodHandle" ∧ m_J3_checkIndex_8e157.1.cls ≠ "java/lang/invoke/VarHandle" ∧ (parseMethodDescriptor m_J3_checkIndex_8e157.1.desc).map (fun q => q.parameters.length) = some 3 := by decide +kernel
def f_J3_checkIndex_8e157_9 (v0 : Int32) (v1 : Int32) (v2 : Nat) (M : XM) : Option (Int32 × XM) :=
  none
set_option maxRecDepth 20000 in
set_option maxHeartbeats 4000000 in
theorem t_J3_checkIndex_8e157_9 (l : Launch) {v0 : Int32} {v1 : Int32} {v2 : Nat} {M : XM} {q : Int32 × XM} (H : f_J3_checkIndex_8e157_9 v0 v1 v2 M = some q) : AW l m_J3_checkIndex_8e157 1 0 0 (x_Ri q) 0 0 9 [some (.int v0), some (.int v1), some (.ref v2)] [] M := by
  unfold f_J3_checkIndex_8e157_9 at H
  refine x_aload_n 9 2 dJ3_checkIndex_8e157_9 rfl rfl ?_
  refine x_iload_n 10 0 dJ3_checkIndex_8e157_10 rfl rfl ?_
  refine x_iload_n 11 1 dJ3_checkIndex_8e157_11 rfl rfl ?_
  cases H

def f_J3_checkIndex_8e157 (v0 : Int32) (v1 : Int32) (v2 : Nat) (M : XM) : Option (Int32 × XM) :=
  if v0 < 0 then (f_J3_checkIndex_8e157_9 v0 v1 v2 M) else (if v0 < v1 then (some (v0, M)) else (f_J3_checkIndex_8e157_9 v0 v1 v2 M))
set_option maxRecDepth 20000 in
set_option maxHeartbeats 4000000 in
theorem t_J3_checkIndex_8e157 (l : Launch) {v0 : Int32} {v1 : Int32} {v2 : Nat} {M : XM} {q : Int32 × XM} (H : f_J3_checkIndex_8e157 v0 v1 v2 M = some q) : AW l m_J3_checkIndex_8e157 1 0 0 (x_Ri q) 0 0 0 [some (.int v0), some (.int v1), some (.ref v2)] [] M := by
  unfold f_J3_checkIndex_8e157 at H
  refine x_iload_n 0 0 dJ3_checkIndex_8e157_0 rfl rfl ?_
  refine x_if_lt 1 9 dJ3_checkIndex_8e157_1 (by decide) (fun c1 => ?_) (fun c1 => ?_)
  · replace H := x_ifp c1 H
    exact t_J3_checkIndex_8e157_9 l H
  · replace H := x_ifn c1 H
    refine x_iload_n 4 0 dJ3_checkIndex_8e157_4 rfl rfl ?_
    refine x_iload_n 5 1 dJ3_checkIndex_8e157_5 rfl rfl ?_
    refine x_icmp_lt 6 16 dJ3_checkIndex_8e157_6 (by decide) (fun c2 => ?_) (fun c2 => ?_)
    · replace H := x_ifp c2 H
      refine x_iload_n 16 0 dJ3_checkIndex_8e157_16 rfl rfl ?_
      cases H
      exact x_iret 17 dJ3_checkIndex_8e157_17 .int rfl rfl (Nat.le_of_ble_eq_true rfl) (Nat.le_of_ble_eq_true rfl) ⟨rfl, rfl⟩
    · replace H := x_ifn c2 H
      exact t_J3_checkIndex_8e157_9 l H

theorem ct_J3_checkIndex_8e157 (l : Launch) {v0 : Int32} {v1 : Int32} {v2 : Nat} {M : XM} {q : Int32 × XM} (H : f_J3_checkIndex_8e157 v0 v1 v2 M = some q) : Ct l m_J3_checkIndex_8e157 1 0 0 [(.int v0), (.int v1), (.ref v2)] M (x_Ri q) := x_met l m_J3_checkIndex_8e157 1 0 0 [(.int v0), (.int v1), (.ref v2)] M (x_Ri q) _ rfl rfl (Nat.le_of_ble_eq_true rfl) (t_J3_checkIndex_8e157 l H)
theorem lk_100 : Cond.initialized RJ3 ∈ x_TB := x_tb (k := 100) (by decide +kernel) rfl
theorem lk_639 : Cond.code yJ3_checkIndex_8e157 cJ3_checkIndex_8e157 3 (some .int) ∈ x_TB := x_tb (k := 639) (by decide +kernel) rfl
theorem lk_637 : Cond.methodLink RJ0 1059 yJ3_checkIndex_8e157 ∈ x_TB := x_tb (k := 637) (by decide +kernel) rfl
theorem lk_638 : Cond.static yJ3_checkIndex_8e157 ∈ x_TB := x_tb (k := 638) (by decide +kernel) rfl
abbrev m_J0_checkIndex_df160 : XU := (yJ0_checkIndex_df160, cJ0_checkIndex_df160, 2, none)
theorem cn_J0_checkIndex_df160 : m_J0_checkIndex_df160.1.cls ≠ "java/lang/invoke/MethodHandle" ∧ m_J0_checkIndex_df160.1.cls ≠ "java/lang/invoke/VarHandle" ∧ (parseMethodDescriptor m_J0_checkIndex_df160.1.desc).map (fun q => q.parameters.length) = some 2 := by decide +kernel
def f_J0_checkIndex_df160 (v0 : Int32) (v1 : Int32) (M : XM) : Option XM :=
  x_bd (f_J3_checkIndex_8e157 v0 v1 19 M) (fun r2 M1 => some M1)
set_option maxRecDepth 20000 in
set_option maxHeartbeats 4000000 in
theorem t_J0_checkIndex_df160 (l : Launch) {v0 : Int32} {v1 : Int32} {M : XM} {q : XM} (H : f_J0_checkIndex_df160 v0 v1 M = some q) : AW l m_J0_checkIndex_df160 2 0 0 (x_Rv q) 0 0 0 [some (.int v0), some (.int v1)] [] M := by
  unfold f_J0_checkIndex_df160 at H
  refine x_iload_n 0 0 dJ0_checkIndex_df160_0 rfl rfl ?_
  refine x_iload_n 1 1 dJ0_checkIndex_df160_1 rfl rfl ?_
  refine x_gets 2 1053 19 "SIOOBE_FORMATTER" "Ljava/util/function/BiFunction;" dJ0_checkIndex_df160_2 "jdk/internal/util/Preconditions" x_ZF lk_635 ?_
  obtain ⟨r2, M1, e3, H⟩ := x_bd_of H
  refine x_callS 5 1059 [(.int v0), (.int v1), (.ref 19)] [] dJ0_checkIndex_df160_5 (ct_J3_checkIndex_8e157 l e3) lk_637 lk_638 lk_100 lk_639 ⟨cn_J3_checkIndex_8e157, (by decide), by decide⟩ rfl (Nat.le_of_ble_eq_true rfl) (Nat.le_of_ble_eq_true rfl) (Nat.le_of_ble_eq_true rfl) (x_ri ?_)
  refine x_pop 8 dJ0_checkIndex_df160_8 rfl ?_
  cases H
  exact x_vret 9 dJ0_checkIndex_df160_9 rfl (Nat.le_of_ble_eq_true rfl) (Nat.le_of_ble_eq_true rfl) ⟨rfl, rfl⟩

theorem ct_J0_checkIndex_df160 (l : Launch) {v0 : Int32} {v1 : Int32} {M : XM} {q : XM} (H : f_J0_checkIndex_df160 v0 v1 M = some q) : Ct l m_J0_checkIndex_df160 2 0 0 [(.int v0), (.int v1)] M (x_Rv q) := x_met l m_J0_checkIndex_df160 2 0 0 [(.int v0), (.int v1)] M (x_Rv q) _ rfl rfl (Nat.le_of_ble_eq_true rfl) (t_J0_checkIndex_df160 l H)
theorem lk_634 : Cond.code yJ0_checkIndex_df160 cJ0_checkIndex_df160 2 none ∈ x_TB := x_tb (k := 634) (by decide +kernel) rfl
theorem lk_632 : Cond.methodLink RJ1 9 yJ0_checkIndex_df160 ∈ x_TB := x_tb (k := 632) (by decide +kernel) rfl
theorem lk_633 : Cond.static yJ0_checkIndex_df160 ∈ x_TB := x_tb (k := 633) (by decide +kernel) rfl
abbrev m_J1_charAt_3b067 : XU := (yJ1_charAt_3b067, cJ1_charAt_3b067, 2, (some .char))
theorem cn_J1_charAt_3b067 : m_J1_charAt_3b067.1.cls ≠ "java/lang/invoke/MethodHandle" ∧ m_J1_charAt_3b067.1.cls ≠ "java/lang/invoke/VarHandle" ∧ (parseMethodDescriptor m_J1_charAt_3b067.1.desc).map (fun q => q.parameters.length) = some 2 := by decide +kernel
def f_J1_charAt_3b067_c3 (v0 : Nat) (v1 : Int32) (M : XM) : Option (Int32 × XM) :=
  if x_at M v0 6 v1 = true then (if v0 < 20 then (if vp_nar .char ((((x_i M v0 v1.toNatClampNeg) &&& (255 : Int32)).toUInt32 % 65536).toInt32) = ((((x_i M v0 v1.toNatClampNeg) &&& (255 : Int32)).toUInt32 % 65536).toInt32) then (some (((((x_i M v0 v1.toNatClampNeg) &&& (255 : Int32)).toUInt32 % 65536).toInt32), M)) else none) else none) else none
set_option maxRecDepth 20000 in
set_option maxHeartbeats 4000000 in
theorem t_J1_charAt_3b067_c3 (l : Launch) {v0 : Nat} {v1 : Int32} {M : XM} {q : Int32 × XM} (H : f_J1_charAt_3b067_c3 v0 v1 M = some q) : AW l m_J1_charAt_3b067 3 0 0 (x_Ri q) 0 0 6 [some (.ref v0), some (.int v1)] [] M := by
  unfold f_J1_charAt_3b067_c3 at H
  refine x_aload_n 6 0 dJ1_charAt_3b067_6 rfl rfl ?_
  refine x_iload_n 7 1 dJ1_charAt_3b067_7 rfl rfl ?_
  obtain ⟨h6, H⟩ := x_ckp H
  obtain ⟨h7, H⟩ := x_ckp H
  refine x_bald 8 dJ1_charAt_3b067_8 h6 h7 ?_
  refine x_sipush 9 (255 : Int32) dJ1_charAt_3b067_9 (by decide) ?_
  refine x_iand 12 dJ1_charAt_3b067_12 ?_
  refine x_i2c 13 dJ1_charAt_3b067_13 ?_
  obtain ⟨h8, H⟩ := x_ckp H
  cases H
  exact x_iret 14 dJ1_charAt_3b067_14 .char rfl (x_narV rfl h8) (Nat.le_of_ble_eq_true rfl) (Nat.le_of_ble_eq_true rfl) ⟨rfl, rfl⟩

def f_J1_charAt_3b067 (v0 : Nat) (v1 : Int32) (M : XM) : Option (Int32 × XM) :=
  if x_tag M v0 = 6 then (if v0 < 20 then (x_bv (f_J0_checkIndex_df160 v1 (Int32.ofNat (x_len M v0)) M) (f_J1_charAt_3b067_c3 v0 v1)) else none) else none
set_option maxRecDepth 20000 in
set_option maxHeartbeats 4000000 in
theorem t_J1_charAt_3b067 (l : Launch) {v0 : Nat} {v1 : Int32} {M : XM} {q : Int32 × XM} (H : f_J1_charAt_3b067 v0 v1 M = some q) : AW l m_J1_charAt_3b067 3 0 0 (x_Ri q) 0 0 0 [some (.ref v0), some (.int v1)] [] M := by
  unfold f_J1_charAt_3b067 at H
  refine x_iload_n 0 1 dJ1_charAt_3b067_0 rfl rfl ?_
  refine x_aload_n 1 0 dJ1_charAt_3b067_1 rfl rfl ?_
  obtain ⟨h1, H⟩ := x_ckp H
  obtain ⟨h2, H⟩ := x_ckp H
  refine x_balen 2 dJ1_charAt_3b067_2 h1 h2 ?_
  obtain ⟨M3, e5, H⟩ := x_bv_of H
  refine x_callS 3 9 [(.int v1), (.int (Int32.ofNat (x_len M v0)))] [] dJ1_charAt_3b067_3 (ct_J0_checkIndex_df160 l e5) lk_632 lk_633 lk_98 lk_634 ⟨cn_J0_checkIndex_df160, (by decide), by decide⟩ rfl (Nat.le_of_ble_eq_true rfl) (Nat.le_of_ble_eq_true rfl) (Nat.le_of_ble_eq_true rfl) (x_rv ?_)
  exact t_J1_charAt_3b067_c3 l H

theorem ct_J1_charAt_3b067 (l : Launch) {v0 : Nat} {v1 : Int32} {M : XM} {q : Int32 × XM} (H : f_J1_charAt_3b067 v0 v1 M = some q) : Ct l m_J1_charAt_3b067 3 0 0 [(.ref v0), (.int v1)] M (x_Ri q) := x_met l m_J1_charAt_3b067 3 0 0 [(.ref v0), (.int v1)] M (x_Ri q) _ rfl rfl (Nat.le_of_ble_eq_true rfl) (t_J1_charAt_3b067 l H)
theorem lk_99 : Cond.initialized RJ1 ∈ x_TB := x_tb (k := 99) (by decide +kernel) rfl
theorem lk_631 : Cond.code yJ1_charAt_3b067 cJ1_charAt_3b067 2 (some .char) ∈ x_TB := x_tb (k := 631) (by decide +kernel) rfl
theorem lk_629 : Cond.methodLink RJ0 495 yJ1_charAt_3b067 ∈ x_TB := x_tb (k := 629) (by decide +kernel) rfl
theorem lk_630 : Cond.static yJ1_charAt_3b067 ∈ x_TB := x_tb (k := 630) (by decide +kernel) rfl
abbrev m_J0_charAt_5068e : XU := (yJ0_charAt_5068e, cJ0_charAt_5068e, 2, (some .char))
theorem cn_J0_charAt_5068e : m_J0_charAt_5068e.1.cls ≠ "java/lang/invoke/MethodHandle" ∧ m_J0_charAt_5068e.1.cls ≠ "java/lang/invoke/VarHandle" ∧ (parseMethodDescriptor m_J0_charAt_5068e.1.desc).map (fun q => q.parameters.length) = some 1 := by decide +kernel
def f_J0_charAt_5068e_c1 (v0 : Nat) (v1 : Int32) (s0 : Int32) (M : XM) : Option (Int32 × XM) :=
  if s0 = 0 then (if x_tag M v0 = 7 then (if v0 < 20 then (none) else none) else none) else (if x_tag M v0 = 7 then (if v0 < 20 then (x_bd (f_J1_charAt_3b067 (v0 + 7) v1 M) (fun r12 M11 => if vp_nar .char r12 = r12 then (some (r12, M11)) else none)) else none) else none)
set_option maxRecDepth 20000 in
set_option maxHeartbeats 4000000 in
theorem t_J0_charAt_5068e_c1 (l : Launch) {v0 : Nat} {v1 : Int32} {s0 : Int32} {M : XM} {q : Int32 × XM} (H : f_J0_charAt_5068e_c1 v0 v1 s0 M = some q) : AW l m_J0_charAt_5068e 4 0 0 (x_Ri q) 0 0 4 [some (.ref v0), some (.int v1)] [(.int s0)] M := by
  unfold f_J0_charAt_5068e_c1 at H
  refine x_if_eq 4 16 dJ0_charAt_5068e_4 (by decide) (fun c6 => ?_) (fun c6 => ?_)
  · replace H := x_ifp c6 H
    refine x_aload_n 16 0 dJ0_charAt_5068e_16 rfl rfl ?_
    obtain ⟨h7, H⟩ := x_ckp H
    obtain ⟨h8, H⟩ := x_ckp H
    refine x_getVal 17 9 dJ0_charAt_5068e_17 lk_1514 h7 h8 ?_
    refine x_iload_n 20 1 dJ0_charAt_5068e_20 rfl rfl ?_
    cases H
  · replace H := x_ifn c6 H
    refine x_aload_n 7 0 dJ0_charAt_5068e_7 rfl rfl ?_
    obtain ⟨h9, H⟩ := x_ckp H
    obtain ⟨h10, H⟩ := x_ckp H
    refine x_getVal 8 9 dJ0_charAt_5068e_8 lk_1514 h9 h10 ?_
    refine x_iload_n 11 1 dJ0_charAt_5068e_11 rfl rfl ?_
    obtain ⟨r12, M11, e13, H⟩ := x_bd_of H
    refine x_callS 12 495 [(.ref (v0 + 7)), (.int v1)] [] dJ0_charAt_5068e_12 (ct_J1_charAt_3b067 l e13) lk_629 lk_630 lk_99 lk_631 ⟨cn_J1_charAt_3b067, (by decide), by decide⟩ rfl (Nat.le_of_ble_eq_true rfl) (Nat.le_of_ble_eq_true rfl) (Nat.le_of_ble_eq_true rfl) (x_ri ?_)
    obtain ⟨h14, H⟩ := x_ckp H
    cases H
    exact x_iret 15 dJ0_charAt_5068e_15 .char rfl (x_narV rfl h14) (Nat.le_of_ble_eq_true rfl) (Nat.le_of_ble_eq_true rfl) ⟨rfl, rfl⟩

def f_J0_charAt_5068e (v0 : Nat) (v1 : Int32) (M : XM) : Option (Int32 × XM) :=
  if x_tag M v0 = 7 then (if v0 < 20 then (x_bd (f_J0_isLatin1_aae02 v0 M) (f_J0_charAt_5068e_c1 v0 v1)) else none) else none
set_option maxRecDepth 20000 in
set_option maxHeartbeats 4000000 in
theorem t_J0_charAt_5068e (l : Launch) {v0 : Nat} {v1 : Int32} {M : XM} {q : Int32 × XM} (H : f_J0_charAt_5068e v0 v1 M = some q) : AW l m_J0_charAt_5068e 4 0 0 (x_Ri q) 0 0 0 [some (.ref v0), some (.int v1)] [] M := by
  unfold f_J0_charAt_5068e at H
  refine x_aload_n 0 0 dJ0_charAt_5068e_0 rfl rfl ?_
  obtain ⟨h1, H⟩ := x_ckp H
  obtain ⟨h2, H⟩ := x_ckp H
  obtain ⟨r4, M3, e5, H⟩ := x_bd_of H
  refine x_callVS 1 492 [] [] dJ0_charAt_5068e_1 (ct_J0_isLatin1_aae02 l e5) lk_625 lk_626 lk_627 h1 h2 lk_98 lk_628 ⟨cn_J0_isLatin1_aae02, (by decide), by decide⟩ rfl (Nat.le_of_ble_eq_true rfl) (Nat.le_of_ble_eq_true rfl) (Nat.le_of_ble_eq_true rfl) (x_ri ?_)
  exact t_J0_charAt_5068e_c1 l H

theorem ct_J0_charAt_5068e (l : Launch) {v0 : Nat} {v1 : Int32} {M : XM} {q : Int32 × XM} (H : f_J0_charAt_5068e v0 v1 M = some q) : Ct l m_J0_charAt_5068e 4 0 0 [(.ref v0), (.int v1)] M (x_Ri q) := x_met l m_J0_charAt_5068e 4 0 0 [(.ref v0), (.int v1)] M (x_Ri q) _ rfl rfl (Nat.le_of_ble_eq_true rfl) (t_J0_charAt_5068e l H)
theorem lk_624 : Cond.code yJ0_charAt_5068e cJ0_charAt_5068e 2 (some .char) ∈ x_TB := x_tb (k := 624) (by decide +kernel) rfl
theorem lk_621 : Cond.methodLink RX5 133 yJ0_charAt_5068e ∈ x_TB := x_tb (k := 621) (by decide +kernel) rfl
theorem lk_623 : Cond.selects RJ0 yJ0_charAt_5068e yJ0_charAt_5068e ∈ x_TB := x_tb (k := 623) (by decide +kernel) rfl
theorem lk_622 : Cond.instanceMethod yJ0_charAt_5068e ∈ x_TB := x_tb (k := 622) (by decide +kernel) rfl
abbrev m_X5_countAlike : XU := (yX5_countAlike, cX5_countAlike, 3, (some .int))
theorem cn_X5_countAlike : m_X5_countAlike.1.cls ≠ "java/lang/invoke/MethodHandle" ∧ m_X5_countAlike.1.cls ≠ "java/lang/invoke/VarHandle" ∧ (parseMethodDescriptor m_X5_countAlike.1.desc).map (fun q => q.parameters.length) = some 1 := by decide +kernel
def f_X5_countAlike_c36 (κ2 : Nat → Nat → Int32 → XM → Option (Int32 × XM)) (v0 : Nat) (v1 : Nat) (v2 : Int32) (s1 : Int32) (s0 : Int32) (M : XM) : Option (Int32 × XM) :=
  if s1 = s0 then (κ2 v0 v1 (v2 + (1 : Int32)) M) else (some (v2, M))
set_option maxRecDepth 20000 in
set_option maxHeartbeats 4000000 in
theorem t_X5_countAlike_c36 (l : Launch) {κ2 : Nat → Nat → Int32 → XM → Option (Int32 × XM)} {v0 : Nat} {v1 : Nat} {v2 : Int32} {s1 : Int32} {s0 : Int32} {M : XM} {q : Int32 × XM} (hκ2 : ∀ (v0 : Nat) (v1 : Nat) (v2 : Int32) (M : XM), κ2 v0 v1 v2 M = some q → AW l m_X5_countAlike 5 0 0 (x_Ri q) 0 0 2 [some (.ref v0), some (.ref v1), some (.int v2)] [] M) (H : f_X5_countAlike_c36 κ2 v0 v1 v2 s1 s0 M = some q) : AW l m_X5_countAlike 5 0 0 (x_Ri q) 0 0 39 [some (.ref v0), some (.ref v1), some (.int v2)] [(.int s0), (.int s1)] M := by
  unfold f_X5_countAlike_c36 at H
  refine x_icmp_ne 39 48 dX5_countAlike_39 (by decide) (fun c15 => ?_) (fun c15 => ?_)
  · replace H := x_ifn c15 H
    refine x_iload_n 48 2 dX5_countAlike_48 rfl rfl ?_
    cases H
    exact x_iret 49 dX5_countAlike_49 .int rfl rfl (Nat.le_of_ble_eq_true rfl) (Nat.le_of_ble_eq_true rfl) ⟨rfl, rfl⟩
  · replace H := x_ifp c15 H
    refine x_iinc 42 2 (v2 + (1 : Int32)) [some (.ref v0), some (.ref v1), some (.int (v2 + (1 : Int32)))] dX5_countAlike_42 rfl (congrArg (fun z : Int32 => v2 + z) (show Int32.ofInt (1) = (1 : Int32) by decide)) rfl (Nat.le_of_ble_eq_true rfl) rfl ?_
    refine x_goto 45 2 dX5_countAlike_45 (by decide) ?_
    exact hκ2 _ _ _ _ H

def f_X5_countAlike_c4 (κ2 : Nat → Nat → Int32 → XM → Option (Int32 × XM)) (v0 : Nat) (v1 : Nat) (v2 : Int32) (s1 : Int32) (s0 : Int32) (M : XM) : Option (Int32 × XM) :=
  if s0 ≤ s1 then (some (v2, M)) else (if x_tag M v0 = 5 + 10 then (if (x_i M v0 3) ≤ ((x_i M v0 4) + v2) then (some (v2, M)) else (if x_at M (x_r M v0 2) 1 ((x_i M v0 4) + v2) = true then (if x_tag M v1 = 7 then (if v1 < 20 then (x_bd (f_J0_charAt_5068e v1 v2 M) (f_X5_countAlike_c36 κ2 v0 v1 v2 (x_i M (x_r M v0 2) ((x_i M v0 4) + v2).toNatClampNeg))) else none) else none) else none)) else none)
set_option maxRecDepth 20000 in
set_option maxHeartbeats 4000000 in
theorem t_X5_countAlike_c4 (l : Launch) {κ2 : Nat → Nat → Int32 → XM → Option (Int32 × XM)} {v0 : Nat} {v1 : Nat} {v2 : Int32} {s1 : Int32} {s0 : Int32} {M : XM} {q : Int32 × XM} (hκ2 : ∀ (v0 : Nat) (v1 : Nat) (v2 : Int32) (M : XM), κ2 v0 v1 v2 M = some q → AW l m_X5_countAlike 5 0 0 (x_Ri q) 0 0 2 [some (.ref v0), some (.ref v1), some (.int v2)] [] M) (H : f_X5_countAlike_c4 κ2 v0 v1 v2 s1 s0 M = some q) : AW l m_X5_countAlike 5 0 0 (x_Ri q) 0 0 7 [some (.ref v0), some (.ref v1), some (.int v2)] [(.int s0), (.int s1)] M := by
  unfold f_X5_countAlike_c4 at H
  refine x_icmp_ge 7 48 dX5_countAlike_7 (by decide) (fun c6 => ?_) (fun c6 => ?_)
  · replace H := x_ifp c6 H
    refine x_iload_n 48 2 dX5_countAlike_48 rfl rfl ?_
    cases H
    exact x_iret 49 dX5_countAlike_49 .int rfl rfl (Nat.le_of_ble_eq_true rfl) (Nat.le_of_ble_eq_true rfl) ⟨rfl, rfl⟩
  · replace H := x_ifn c6 H
    refine x_aload_n 10 0 dX5_countAlike_10 rfl rfl ?_
    obtain ⟨h7, H⟩ := x_ckp H
    refine x_getf 11 46 5 4 (.int (x_i M v0 4)) dX5_countAlike_11 lk_220 (by decide) (by decide) rfl (fun _ => rfl) h7 ?_
    refine x_iload_n 14 2 dX5_countAlike_14 rfl rfl ?_
    refine x_iadd 15 dX5_countAlike_15 ?_
    refine x_aload_n 16 0 dX5_countAlike_16 rfl rfl ?_
    refine x_getf 17 41 5 3 (.int (x_i M v0 3)) dX5_countAlike_17 lk_219 (by decide) (by decide) rfl (fun _ => rfl) h7 ?_
    refine x_icmp_ge 20 48 dX5_countAlike_20 (by decide) (fun c8 => ?_) (fun c8 => ?_)
    · replace H := x_ifp c8 H
      refine x_iload_n 48 2 dX5_countAlike_48 rfl rfl ?_
      cases H
      exact x_iret 49 dX5_countAlike_49 .int rfl rfl (Nat.le_of_ble_eq_true rfl) (Nat.le_of_ble_eq_true rfl) ⟨rfl, rfl⟩
    · replace H := x_ifn c8 H
      refine x_aload_n 23 0 dX5_countAlike_23 rfl rfl ?_
      refine x_getf 24 22 5 2 (.ref (x_r M v0 2)) dX5_countAlike_24 lk_218 (by decide) (by decide) rfl (fun _ => rfl) h7 ?_
      refine x_aload_n 27 0 dX5_countAlike_27 rfl rfl ?_
      refine x_getf 28 46 5 4 (.int (x_i M v0 4)) dX5_countAlike_28 lk_220 (by decide) (by decide) rfl (fun _ => rfl) h7 ?_
      refine x_iload_n 31 2 dX5_countAlike_31 rfl rfl ?_
      refine x_iadd 32 dX5_countAlike_32 ?_
      obtain ⟨h9, H⟩ := x_ckp H
      refine x_iald 33 dX5_countAlike_33 h9 ?_
      refine x_aload_n 34 1 dX5_countAlike_34 rfl rfl ?_
      refine x_iload_n 35 2 dX5_countAlike_35 rfl rfl ?_
      obtain ⟨h10, H⟩ := x_ckp H
      obtain ⟨h11, H⟩ := x_ckp H
      obtain ⟨r13, M12, e14, H⟩ := x_bd_of H
      refine x_callVS 36 133 [(.int v2)] [(.int (x_i M (x_r M v0 2) ((x_i M v0 4) + v2).toNatClampNeg))] dX5_countAlike_36 (ct_J0_charAt_5068e l e14) lk_621 lk_622 lk_623 h10 h11 lk_98 lk_624 ⟨cn_J0_charAt_5068e, (by decide), by decide⟩ rfl (Nat.le_of_ble_eq_true rfl) (Nat.le_of_ble_eq_true rfl) (Nat.le_of_ble_eq_true rfl) (x_ri ?_)
      exact t_X5_countAlike_c36 l hκ2 H

def bd_X5_countAlike_2 (κ2 : Nat → Nat → Int32 → XM → Option (Int32 × XM)) (v0 : Nat) (v1 : Nat) (v2 : Int32) (M : XM) : Option (Int32 × XM) :=
  if x_tag M v1 = 7 then (if v1 < 20 then (x_bd (f_J0_length_8abf5 v1 M) (f_X5_countAlike_c4 κ2 v0 v1 v2 v2)) else none) else none
set_option maxRecDepth 20000 in
set_option maxHeartbeats 4000000 in
theorem tb_X5_countAlike_2 (l : Launch) {κ2 : Nat → Nat → Int32 → XM → Option (Int32 × XM)} {v0 : Nat} {v1 : Nat} {v2 : Int32} {M : XM} {q : Int32 × XM} (hκ2 : ∀ (v0 : Nat) (v1 : Nat) (v2 : Int32) (M : XM), κ2 v0 v1 v2 M = some q → AW l m_X5_countAlike 5 0 0 (x_Ri q) 0 0 2 [some (.ref v0), some (.ref v1), some (.int v2)] [] M) (H : bd_X5_countAlike_2 κ2 v0 v1 v2 M = some q) : AW l m_X5_countAlike 5 0 0 (x_Ri q) 0 0 2 [some (.ref v0), some (.ref v1), some (.int v2)] [] M := by
  unfold bd_X5_countAlike_2 at H
  refine x_iload_n 2 2 dX5_countAlike_2 rfl rfl ?_
  refine x_aload_n 3 1 dX5_countAlike_3 rfl rfl ?_
  obtain ⟨h1, H⟩ := x_ckp H
  obtain ⟨h2, H⟩ := x_ckp H
  obtain ⟨r4, M3, e5, H⟩ := x_bd_of H
  refine x_callVS 4 126 [] [(.int v2)] dX5_countAlike_4 (ct_J0_length_8abf5 l e5) lk_611 lk_612 lk_613 h1 h2 lk_98 lk_614 ⟨cn_J0_length_8abf5, (by decide), by decide⟩ rfl (Nat.le_of_ble_eq_true rfl) (Nat.le_of_ble_eq_true rfl) (Nat.le_of_ble_eq_true rfl) (x_ri ?_)
  exact t_X5_countAlike_c4 l hκ2 H

def lp_X5_countAlike_2 (n : Nat) : Nat → Nat → Int32 → XM → Option (Int32 × XM) := x_rec (fun _ _ _ _ => none) (bd_X5_countAlike_2) n
theorem t_X5_countAlike_2 (l : Launch) {q : Int32 × XM} : ∀ (n : Nat) (v0 : Nat) (v1 : Nat) (v2 : Int32) (M : XM), lp_X5_countAlike_2 n v0 v1 v2 M = some q → AW l m_X5_countAlike 5 0 0 (x_Ri q) 0 0 2 [some (.ref v0), some (.ref v1), some (.int v2)] [] M := by
  intro n
  induction n with
  | zero => intro v0 v1 v2 M H; cases H
  | succ n ih => intro v0 v1 v2 M H; exact tb_X5_countAlike_2 l ih H
def f_X5_countAlike (v0 : Nat) (v1 : Nat) (M : XM) : Option (Int32 × XM) :=
  lp_X5_countAlike_2 x_fuel v0 v1 (0 : Int32) M
set_option maxRecDepth 20000 in
set_option maxHeartbeats 4000000 in
theorem t_X5_countAlike (l : Launch) {v0 : Nat} {v1 : Nat} {M : XM} {q : Int32 × XM} (H : f_X5_countAlike v0 v1 M = some q) : AW l m_X5_countAlike 5 0 0 (x_Ri q) 0 0 0 [some (.ref v0), some (.ref v1), none] [] M := by
  unfold f_X5_countAlike at H
  refine x_iconst 0 (0 : Int32) dX5_countAlike_0 (by decide) ?_
  refine x_istore_n 1 2 [some (.ref v0), some (.ref v1), some (.int (0 : Int32))] dX5_countAlike_1 rfl rfl (Nat.le_of_ble_eq_true rfl) rfl ?_
  exact t_X5_countAlike_2 l _ _ _ _ _ H

theorem ct_X5_countAlike (l : Launch) {v0 : Nat} {v1 : Nat} {M : XM} {q : Int32 × XM} (H : f_X5_countAlike v0 v1 M = some q) : Ct l m_X5_countAlike 5 0 0 [(.ref v0), (.ref v1)] M (x_Ri q) := x_met l m_X5_countAlike 5 0 0 [(.ref v0), (.ref v1)] M (x_Ri q) _ rfl rfl (Nat.le_of_ble_eq_true rfl) (t_X5_countAlike l H)
theorem lk_610 : Cond.code yX5_countAlike cX5_countAlike 3 (some .int) ∈ x_TB := x_tb (k := 610) (by decide +kernel) rfl
theorem lk_607 : Cond.methodLink RX5 122 yX5_countAlike ∈ x_TB := x_tb (k := 607) (by decide +kernel) rfl
theorem lk_7 : Cond.selects RX5 yX5_countAlike yX5_countAlike ∈ x_TB := x_tb (k := 7) (by decide +kernel) rfl
theorem lk_609 : Cond.instanceMethod yX5_countAlike ∈ x_TB := x_tb (k := 609) (by decide +kernel) rfl
theorem lk_659 : Cond.methodLink RX5 130 Lib.Math.max.name ∈ x_TB := x_tb (k := 659) (by decide +kernel) rfl
abbrev m_X5_readWord : XU := (yX5_readWord, cX5_readWord, 5, (some .int))
theorem cn_X5_readWord : m_X5_readWord.1.cls ≠ "java/lang/invoke/MethodHandle" ∧ m_X5_readWord.1.cls ≠ "java/lang/invoke/VarHandle" ∧ (parseMethodDescriptor m_X5_readWord.1.desc).map (fun q => q.parameters.length) = some 0 := by decide +kernel
def f_X5_readWord_c25 (κ4 : Nat → Int32 → Int32 → XM → Option (Int32 × XM)) (v0 : Nat) (v1 : Int32) (v2 : Int32) (v4 : Int32) (s1 : Int32) (s0 : Int32) (M : XM) : Option (Int32 × XM) :=
  if s1 = s0 then (if x_tag M v0 = 5 + 10 then (x_lt (x_wi M v0 4 ((x_i M v0 4) + v4)) (fun M20 => some (v2, M20))) else none) else (κ4 v0 (if v1 < v4 then v4 else v1) (v2 + (1 : Int32)) M)
set_option maxRecDepth 20000 in
set_option maxHeartbeats 4000000 in
theorem t_X5_readWord_c25 (l : Launch) {κ4 : Nat → Int32 → Int32 → XM → Option (Int32 × XM)} {v0 : Nat} {v1 : Int32} {v2 : Int32} {v4 : Int32} {s1 : Int32} {s0 : Int32} {M : XM} {q : Int32 × XM} (hκ4 : ∀ (v0 : Nat) (v1 : Int32) (v2 : Int32) (M : XM), κ4 v0 v1 v2 M = some q → AW l m_X5_readWord 6 0 0 (x_Ri q) 0 0 4 [some (.ref v0), some (.int v1), some (.int v2), none, none] [] M) (H : f_X5_readWord_c25 κ4 v0 v1 v2 v4 s1 s0 M = some q) : AW l m_X5_readWord 6 0 0 (x_Ri q) 0 0 28 [some (.ref v0), some (.int v1), some (.int v2), none, some (.int v4)] [(.int s0), (.int s1)] M := by
  unfold f_X5_readWord_c25 at H
  refine x_icmp_ne 28 44 dX5_readWord_28 (by decide) (fun c18 => ?_) (fun c18 => ?_)
  · replace H := x_ifn c18 H
    refine x_iload_n 44 1 dX5_readWord_44 rfl rfl ?_
    refine x_iload 45 4 dX5_readWord_45 rfl ?_
    refine x_max 47 130 dX5_readWord_47 lk_659 lk_660 lk_97 lk_661 rfl (Nat.le_of_ble_eq_true rfl) (by decide) (Nat.le_of_ble_eq_true rfl) (Nat.le_of_ble_eq_true rfl) ?_
    refine x_istore_n 50 1 [some (.ref v0), some (.int (if v1 < v4 then v4 else v1)), some (.int v2), none, some (.int v4)] dX5_readWord_50 rfl rfl (Nat.le_of_ble_eq_true rfl) rfl ?_
    refine x_iinc 51 2 (v2 + (1 : Int32)) [some (.ref v0), some (.int (if v1 < v4 then v4 else v1)), some (.int (v2 + (1 : Int32))), none, some (.int v4)] dX5_readWord_51 rfl (congrArg (fun z : Int32 => v2 + z) (show Int32.ofInt (1) = (1 : Int32) by decide)) rfl (Nat.le_of_ble_eq_true rfl) rfl ?_
    refine x_goto 54 4 dX5_readWord_54 (by decide) ?_
    exact x_wk (le_s (le_s (le_s (le_s (le_n le_0))))) (hκ4 _ _ _ _ H)
  · replace H := x_ifp c18 H
    refine x_aload_n 31 0 dX5_readWord_31 rfl rfl ?_
    refine x_dup 32 dX5_readWord_32 rfl ?_
    obtain ⟨h19, H⟩ := x_ckp H
    refine x_getf 33 46 5 4 (.int (x_i M v0 4)) dX5_readWord_33 lk_220 (by decide) (by decide) rfl (fun _ => rfl) h19 ?_
    refine x_iload 36 4 dX5_readWord_36 rfl ?_
    refine x_iadd 38 dX5_readWord_38 ?_
    obtain ⟨M20, w21, H⟩ := x_lt_of H
    have h22 : x_tag M20 v0 = 5 + 10 := by rw [w21]; exact h19
    refine x_putI' 39 46 5 4 dX5_readWord_39 lk_220 (by decide) (by decide) rfl (Or.inl rfl) (Or.inl rfl) h19 w21 ?_
    refine x_iload_n 42 2 dX5_readWord_42 rfl rfl ?_
    cases H
    exact x_iret 43 dX5_readWord_43 .int rfl rfl (Nat.le_of_ble_eq_true rfl) (Nat.le_of_ble_eq_true rfl) ⟨rfl, rfl⟩

def f_X5_readWord_c17 (κ4 : Nat → Int32 → Int32 → XM → Option (Int32 × XM)) (v0 : Nat) (v1 : Int32) (v2 : Int32) (v3 : Nat) (s0 : Int32) (M : XM) : Option (Int32 × XM) :=
  if x_tag M v3 = 7 then (if v3 < 20 then (x_bd (f_J0_length_8abf5 v3 M) (f_X5_readWord_c25 κ4 v0 v1 v2 s0 s0)) else none) else none
set_option maxRecDepth 20000 in
set_option maxHeartbeats 4000000 in
theorem t_X5_readWord_c17 (l : Launch) {κ4 : Nat → Int32 → Int32 → XM → Option (Int32 × XM)} {v0 : Nat} {v1 : Int32} {v2 : Int32} {v3 : Nat} {s0 : Int32} {M : XM} {q : Int32 × XM} (hκ4 : ∀ (v0 : Nat) (v1 : Int32) (v2 : Int32) (M : XM), κ4 v0 v1 v2 M = some q → AW l m_X5_readWord 6 0 0 (x_Ri q) 0 0 4 [some (.ref v0), some (.int v1), some (.int v2), none, none] [] M) (H : f_X5_readWord_c17 κ4 v0 v1 v2 v3 s0 M = some q) : AW l m_X5_readWord 6 0 0 (x_Ri q) 0 0 20 [some (.ref v0), some (.int v1), some (.int v2), some (.ref v3), none] [(.int s0)] M := by
  unfold f_X5_readWord_c17 at H
  refine x_istore 20 4 [some (.ref v0), some (.int v1), some (.int v2), some (.ref v3), some (.int s0)] dX5_readWord_20 rfl (Nat.le_of_ble_eq_true rfl) rfl ?_
  refine x_iload 22 4 dX5_readWord_22 rfl ?_
  refine x_aload_n 24 3 dX5_readWord_24 rfl rfl ?_
  obtain ⟨h13, H⟩ := x_ckp H
  obtain ⟨h14, H⟩ := x_ckp H
  obtain ⟨r16, M15, e17, H⟩ := x_bd_of H
  refine x_callVS 25 126 [] [(.int s0)] dX5_readWord_25 (ct_J0_length_8abf5 l e17) lk_611 lk_612 lk_613 h13 h14 lk_98 lk_614 ⟨cn_J0_length_8abf5, (by decide), by decide⟩ rfl (Nat.le_of_ble_eq_true rfl) (Nat.le_of_ble_eq_true rfl) (Nat.le_of_ble_eq_true rfl) (x_ri ?_)
  exact x_wk (le_s (le_s (le_s (le_n (le_s le_0))))) (t_X5_readWord_c25 l hκ4 H)

def f_X5_readWord_c11 (κ4 : Nat → Int32 → Int32 → XM → Option (Int32 × XM)) (v0 : Nat) (v1 : Int32) (v2 : Int32) (s0 : Nat) (M : XM) : Option (Int32 × XM) :=
  if x_tag M v0 = 5 + 10 then (x_bd (f_X5_countAlike v0 s0 M) (f_X5_readWord_c17 κ4 v0 v1 v2 s0)) else none
set_option maxRecDepth 20000 in
set_option maxHeartbeats 4000000 in
theorem t_X5_readWord_c11 (l : Launch) {κ4 : Nat → Int32 → Int32 → XM → Option (Int32 × XM)} {v0 : Nat} {v1 : Int32} {v2 : Int32} {s0 : Nat} {M : XM} {q : Int32 × XM} (hκ4 : ∀ (v0 : Nat) (v1 : Int32) (v2 : Int32) (M : XM), κ4 v0 v1 v2 M = some q → AW l m_X5_readWord 6 0 0 (x_Ri q) 0 0 4 [some (.ref v0), some (.int v1), some (.int v2), none, none] [] M) (H : f_X5_readWord_c11 κ4 v0 v1 v2 s0 M = some q) : AW l m_X5_readWord 6 0 0 (x_Ri q) 0 0 14 [some (.ref v0), some (.int v1), some (.int v2), none, none] [(.ref s0)] M := by
  unfold f_X5_readWord_c11 at H
  refine x_astore_n 14 3 [some (.ref v0), some (.int v1), some (.int v2), some (.ref s0), none] dX5_readWord_14 rfl rfl (Nat.le_of_ble_eq_true rfl) rfl ?_
  refine x_aload_n 15 0 dX5_readWord_15 rfl rfl ?_
  refine x_aload_n 16 3 dX5_readWord_16 rfl rfl ?_
  obtain ⟨h9, H⟩ := x_ckp H
  obtain ⟨r11, M10, e12, H⟩ := x_bd_of H
  refine x_callV 17 122 5 [(.ref s0)] [] dX5_readWord_17 (ct_X5_countAlike l e12) lk_607 lk_609 lk_7 (by decide) h9 lk_88 lk_610 ⟨cn_X5_countAlike, (by decide), by decide⟩ rfl (Nat.le_of_ble_eq_true rfl) (Nat.le_of_ble_eq_true rfl) (Nat.le_of_ble_eq_true rfl) (x_ri ?_)
  exact t_X5_readWord_c17 l hκ4 H

def bd_X5_readWord_4 (κ4 : Nat → Int32 → Int32 → XM → Option (Int32 × XM)) (v0 : Nat) (v1 : Int32) (v2 : Int32) (M : XM) : Option (Int32 × XM) :=
  if (7 : Int32) ≤ v2 then (if x_tag M v0 = 5 + 10 then (x_lt (x_wi M v0 0 ((x_i M v0 4) + v1)) (fun M3 => some ((-1 : Int32), M3))) else none) else (x_bd (f_X5_nameOf v2 M) (f_X5_readWord_c11 κ4 v0 v1 v2))
set_option maxRecDepth 20000 in
set_option maxHeartbeats 4000000 in
theorem tb_X5_readWord_4 (l : Launch) {κ4 : Nat → Int32 → Int32 → XM → Option (Int32 × XM)} {v0 : Nat} {v1 : Int32} {v2 : Int32} {M : XM} {q : Int32 × XM} (hκ4 : ∀ (v0 : Nat) (v1 : Int32) (v2 : Int32) (M : XM), κ4 v0 v1 v2 M = some q → AW l m_X5_readWord 6 0 0 (x_Ri q) 0 0 4 [some (.ref v0), some (.int v1), some (.int v2), none, none] [] M) (H : bd_X5_readWord_4 κ4 v0 v1 v2 M = some q) : AW l m_X5_readWord 6 0 0 (x_Ri q) 0 0 4 [some (.ref v0), some (.int v1), some (.int v2), none, none] [] M := by
  unfold bd_X5_readWord_4 at H
  refine x_iload_n 4 2 dX5_readWord_4 rfl rfl ?_
  refine x_bipush 5 (7 : Int32) dX5_readWord_5 (by decide) ?_
  refine x_icmp_ge 7 57 dX5_readWord_7 (by decide) (fun c1 => ?_) (fun c1 => ?_)
  · replace H := x_ifp c1 H
    refine x_aload_n 57 0 dX5_readWord_57 rfl rfl ?_
    refine x_aload_n 58 0 dX5_readWord_58 rfl rfl ?_
    obtain ⟨h2, H⟩ := x_ckp H
    refine x_getf 59 46 5 4 (.int (x_i M v0 4)) dX5_readWord_59 lk_220 (by decide) (by decide) rfl (fun _ => rfl) h2 ?_
    refine x_iload_n 62 1 dX5_readWord_62 rfl rfl ?_
    refine x_iadd 63 dX5_readWord_63 ?_
    obtain ⟨M3, w4, H⟩ := x_lt_of H
    have h5 : x_tag M3 v0 = 5 + 10 := by rw [w4]; exact h2
    refine x_putI' 64 9 5 0 dX5_readWord_64 lk_214 (by decide) (by decide) rfl (Or.inl rfl) (Or.inl rfl) h2 w4 ?_
    refine x_iconst 67 (-1 : Int32) dX5_readWord_67 (by decide) ?_
    cases H
    exact x_iret 68 dX5_readWord_68 .int rfl rfl (Nat.le_of_ble_eq_true rfl) (Nat.le_of_ble_eq_true rfl) ⟨rfl, rfl⟩
  · replace H := x_ifn c1 H
    refine x_iload_n 10 2 dX5_readWord_10 rfl rfl ?_
    obtain ⟨r7, M6, e8, H⟩ := x_bd_of H
    refine x_callS 11 118 [(.int v2)] [] dX5_readWord_11 (ct_X5_nameOf l e8) lk_597 lk_598 lk_88 lk_599 ⟨cn_X5_nameOf, (by decide), by decide⟩ rfl (Nat.le_of_ble_eq_true rfl) (Nat.le_of_ble_eq_true rfl) (Nat.le_of_ble_eq_true rfl) (x_ra ?_)
    exact t_X5_readWord_c11 l hκ4 H

def lp_X5_readWord_4 (n : Nat) : Nat → Int32 → Int32 → XM → Option (Int32 × XM) := x_rec (fun _ _ _ _ => none) (bd_X5_readWord_4) n
theorem t_X5_readWord_4 (l : Launch) {q : Int32 × XM} : ∀ (n : Nat) (v0 : Nat) (v1 : Int32) (v2 : Int32) (M : XM), lp_X5_readWord_4 n v0 v1 v2 M = some q → AW l m_X5_readWord 6 0 0 (x_Ri q) 0 0 4 [some (.ref v0), some (.int v1), some (.int v2), none, none] [] M := by
  intro n
  induction n with
  | zero => intro v0 v1 v2 M H; cases H
  | succ n ih => intro v0 v1 v2 M H; exact tb_X5_readWord_4 l ih H
def f_X5_readWord (v0 : Nat) (M : XM) : Option (Int32 × XM) :=
  lp_X5_readWord_4 x_fuel v0 (0 : Int32) (0 : Int32) M
set_option maxRecDepth 20000 in
set_option maxHeartbeats 4000000 in
theorem t_X5_readWord (l : Launch) {v0 : Nat} {M : XM} {q : Int32 × XM} (H : f_X5_readWord v0 M = some q) : AW l m_X5_readWord 6 0 0 (x_Ri q) 0 0 0 [some (.ref v0), none, none, none, none] [] M := by
  unfold f_X5_readWord at H
  refine x_iconst 0 (0 : Int32) dX5_readWord_0 (by decide) ?_
  refine x_istore_n 1 1 [some (.ref v0), some (.int (0 : Int32)), none, none, none] dX5_readWord_1 rfl rfl (Nat.le_of_ble_eq_true rfl) rfl ?_
  refine x_iconst 2 (0 : Int32) dX5_readWord_2 (by decide) ?_
  refine x_istore_n 3 2 [some (.ref v0), some (.int (0 : Int32)), some (.int (0 : Int32)), none, none] dX5_readWord_3 rfl rfl (Nat.le_of_ble_eq_true rfl) rfl ?_
  exact t_X5_readWord_4 l _ _ _ _ _ H

theorem ct_X5_readWord (l : Launch) {v0 : Nat} {M : XM} {q : Int32 × XM} (H : f_X5_readWord v0 M = some q) : Ct l m_X5_readWord 6 0 0 [(.ref v0)] M (x_Ri q) := x_met l m_X5_readWord 6 0 0 [(.ref v0)] M (x_Ri q) _ rfl rfl (Nat.le_of_ble_eq_true rfl) (t_X5_readWord l H)
theorem lk_596 : Cond.code yX5_readWord cX5_readWord 5 (some .int) ∈ x_TB := x_tb (k := 596) (by decide +kernel) rfl
theorem lk_593 : Cond.methodLink RX5 56 yX5_readWord ∈ x_TB := x_tb (k := 593) (by decide +kernel) rfl
theorem lk_6 : Cond.selects RX5 yX5_readWord yX5_readWord ∈ x_TB := x_tb (k := 6) (by decide +kernel) rfl
theorem lk_595 : Cond.instanceMethod yX5_readWord ∈ x_TB := x_tb (k := 595) (by decide +kernel) rfl
theorem lk_524 : Cond.code yX4_hasRoomForCounter cX4_hasRoomForCounter 1 (some .boolean) ∈ x_TB := x_tb (k := 524) (by decide +kernel) rfl
theorem lk_666 : Cond.methodLink RX5 77 yX4_hasRoomForCounter ∈ x_TB := x_tb (k := 666) (by decide +kernel) rfl
theorem lk_523 : Cond.selects RX4 yX4_hasRoomForCounter yX4_hasRoomForCounter ∈ x_TB := x_tb (k := 523) (by decide +kernel) rfl
theorem lk_522 : Cond.instanceMethod yX4_hasRoomForCounter ∈ x_TB := x_tb (k := 522) (by decide +kernel) rfl
theorem lk_670 : Cond.code yX4_hasRoomForTally cX4_hasRoomForTally 1 (some .boolean) ∈ x_TB := x_tb (k := 670) (by decide +kernel) rfl
theorem lk_667 : Cond.methodLink RX5 81 yX4_hasRoomForTally ∈ x_TB := x_tb (k := 667) (by decide +kernel) rfl
theorem lk_669 : Cond.selects RX4 yX4_hasRoomForTally yX4_hasRoomForTally ∈ x_TB := x_tb (k := 669) (by decide +kernel) rfl
theorem lk_668 : Cond.instanceMethod yX4_hasRoomForTally ∈ x_TB := x_tb (k := 668) (by decide +kernel) rfl
abbrev m_X5_hasRoomFor : XU := (yX5_hasRoomFor, cX5_hasRoomFor, 2, (some .boolean))
theorem cn_X5_hasRoomFor : m_X5_hasRoomFor.1.cls ≠ "java/lang/invoke/MethodHandle" ∧ m_X5_hasRoomFor.1.cls ≠ "java/lang/invoke/VarHandle" ∧ (parseMethodDescriptor m_X5_hasRoomFor.1.desc).map (fun q => q.parameters.length) = some 1 := by decide +kernel
def f_X5_hasRoomFor_c22 (s0 : Int32) (M : XM) : Option (Int32 × XM) :=
  if s0 = 0 then (some ((0 : Int32), M)) else (some ((1 : Int32), M))
set_option maxRecDepth 20000 in
set_option maxHeartbeats 4000000 in
theorem t_X5_hasRoomFor_c22 (l : Launch) {s0 : Int32} {M : XM} {q : Int32 × XM} (H : f_X5_hasRoomFor_c22 s0 M = some q) : AW l m_X5_hasRoomFor 2 0 0 (x_Ri q) 0 0 25 [none, none] [(.int s0)] M := by
  unfold f_X5_hasRoomFor_c22 at H
  refine x_if_eq 25 32 dX5_hasRoomFor_25 (by decide) (fun c14 => ?_) (fun c14 => ?_)
  · replace H := x_ifp c14 H
    refine x_iconst 32 (0 : Int32) dX5_hasRoomFor_32 (by decide) ?_
    cases H
    exact x_iret 33 dX5_hasRoomFor_33 .boolean rfl rfl (Nat.le_of_ble_eq_true rfl) (Nat.le_of_ble_eq_true rfl) ⟨rfl, rfl⟩
  · replace H := x_ifn c14 H
    refine x_iconst 28 (1 : Int32) dX5_hasRoomFor_28 (by decide) ?_
    refine x_goto 29 33 dX5_hasRoomFor_29 (by decide) ?_
    cases H
    exact x_iret 33 dX5_hasRoomFor_33 .boolean rfl rfl (Nat.le_of_ble_eq_true rfl) (Nat.le_of_ble_eq_true rfl) ⟨rfl, rfl⟩

def f_X5_hasRoomFor (v0 : Nat) (v1 : Int32) (M : XM) : Option (Int32 × XM) :=
  if v1 = (5 : Int32) then (if x_tag M v0 = 5 + 10 then (if x_tag M (x_r M v0 1) = 4 + 10 then (x_bd (f_X4_hasRoomForCounter (x_r M v0 1) M) (fun r5 M4 => if r5 = 0 ∨ r5 = 1 then (some (r5, M4)) else none)) else none) else none) else (if v1 = (4 : Int32) then (if x_tag M v0 = 5 + 10 then (if x_tag M (x_r M v0 1) = 4 + 10 then (x_bd (f_X4_hasRoomForTally (x_r M v0 1) M) f_X5_hasRoomFor_c22) else none) else none) else (some ((1 : Int32), M)))
set_option maxRecDepth 20000 in
set_option maxHeartbeats 4000000 in
theorem t_X5_hasRoomFor (l : Launch) {v0 : Nat} {v1 : Int32} {M : XM} {q : Int32 × XM} (H : f_X5_hasRoomFor v0 v1 M = some q) : AW l m_X5_hasRoomFor 2 0 0 (x_Ri q) 0 0 0 [some (.ref v0), some (.int v1)] [] M := by
  unfold f_X5_hasRoomFor at H
  refine x_iload_n 0 1 dX5_hasRoomFor_0 rfl rfl ?_
  refine x_iconst 1 (5 : Int32) dX5_hasRoomFor_1 (by decide) ?_
  refine x_icmp_ne 2 13 dX5_hasRoomFor_2 (by decide) (fun c1 => ?_) (fun c1 => ?_)
  · replace H := x_ifn c1 H
    refine x_iload_n 13 1 dX5_hasRoomFor_13 rfl rfl ?_
    refine x_iconst 14 (4 : Int32) dX5_hasRoomFor_14 (by decide) ?_
    refine x_icmp_ne 15 28 dX5_hasRoomFor_15 (by decide) (fun c8 => ?_) (fun c8 => ?_)
    · replace H := x_ifn c8 H
      refine x_iconst 28 (1 : Int32) dX5_hasRoomFor_28 (by decide) ?_
      refine x_goto 29 33 dX5_hasRoomFor_29 (by decide) ?_
      cases H
      exact x_iret 33 dX5_hasRoomFor_33 .boolean rfl rfl (Nat.le_of_ble_eq_true rfl) (Nat.le_of_ble_eq_true rfl) ⟨rfl, rfl⟩
    · replace H := x_ifp c8 H
      refine x_aload_n 18 0 dX5_hasRoomFor_18 rfl rfl ?_
      obtain ⟨h9, H⟩ := x_ckp H
      refine x_getf 19 18 5 1 (.ref (x_r M v0 1)) dX5_hasRoomFor_19 lk_216 (by decide) (by decide) rfl (fun _ => rfl) h9 ?_
      obtain ⟨h10, H⟩ := x_ckp H
      obtain ⟨r12, M11, e13, H⟩ := x_bd_of H
      refine x_callV 22 81 4 [] [] dX5_hasRoomFor_22 (ct_X4_hasRoomForTally l e13) lk_667 lk_668 lk_669 (by decide) h10 lk_86 lk_670 ⟨cn_X4_hasRoomForTally, (by decide), by decide⟩ rfl (Nat.le_of_ble_eq_true rfl) (Nat.le_of_ble_eq_true rfl) (Nat.le_of_ble_eq_true rfl) (x_ri ?_)
      exact x_wk (le_n (le_n le_0)) (t_X5_hasRoomFor_c22 l H)
  · replace H := x_ifp c1 H
    refine x_aload_n 5 0 dX5_hasRoomFor_5 rfl rfl ?_
    obtain ⟨h2, H⟩ := x_ckp H
    refine x_getf 6 18 5 1 (.ref (x_r M v0 1)) dX5_hasRoomFor_6 lk_216 (by decide) (by decide) rfl (fun _ => rfl) h2 ?_
    obtain ⟨h3, H⟩ := x_ckp H
    obtain ⟨r5, M4, e6, H⟩ := x_bd_of H
    refine x_callV 9 77 4 [] [] dX5_hasRoomFor_9 (ct_X4_hasRoomForCounter l e6) lk_666 lk_522 lk_523 (by decide) h3 lk_86 lk_524 ⟨cn_X4_hasRoomForCounter, (by decide), by decide⟩ rfl (Nat.le_of_ble_eq_true rfl) (Nat.le_of_ble_eq_true rfl) (Nat.le_of_ble_eq_true rfl) (x_ri ?_)
    obtain ⟨h7, H⟩ := x_ckp H
    cases H
    exact x_iret 12 dX5_hasRoomFor_12 .boolean rfl (x_narZ h7) (Nat.le_of_ble_eq_true rfl) (Nat.le_of_ble_eq_true rfl) ⟨rfl, rfl⟩

theorem ct_X5_hasRoomFor (l : Launch) {v0 : Nat} {v1 : Int32} {M : XM} {q : Int32 × XM} (H : f_X5_hasRoomFor v0 v1 M = some q) : Ct l m_X5_hasRoomFor 2 0 0 [(.ref v0), (.int v1)] M (x_Ri q) := x_met l m_X5_hasRoomFor 2 0 0 [(.ref v0), (.int v1)] M (x_Ri q) _ rfl rfl (Nat.le_of_ble_eq_true rfl) (t_X5_hasRoomFor l H)
theorem lk_665 : Cond.code yX5_hasRoomFor cX5_hasRoomFor 2 (some .boolean) ∈ x_TB := x_tb (k := 665) (by decide +kernel) rfl
theorem lk_662 : Cond.methodLink RX5 60 yX5_hasRoomFor ∈ x_TB := x_tb (k := 662) (by decide +kernel) rfl
theorem lk_8 : Cond.selects RX5 yX5_hasRoomFor yX5_hasRoomFor ∈ x_TB := x_tb (k := 8) (by decide +kernel) rfl
theorem lk_664 : Cond.instanceMethod yX5_hasRoomFor ∈ x_TB := x_tb (k := 664) (by decide +kernel) rfl
abbrev m_X5_expect : XU := (yX5_expect, cX5_expect, 2, none)
theorem cn_X5_expect : m_X5_expect.1.cls ≠ "java/lang/invoke/MethodHandle" ∧ m_X5_expect.1.cls ≠ "java/lang/invoke/VarHandle" ∧ (parseMethodDescriptor m_X5_expect.1.desc).map (fun q => q.parameters.length) = some 1 := by decide +kernel
def f_X5_expect_46 (v0 : Nat) (M : XM) : Option XM :=
  if x_tag M v0 = 5 + 10 then (x_lt (x_wi M v0 0 (x_i M v0 4)) (fun M5 => some M5)) else none
set_option maxRecDepth 20000 in
set_option maxHeartbeats 4000000 in
theorem t_X5_expect_46 (l : Launch) {v0 : Nat} {M : XM} {q : XM} (H : f_X5_expect_46 v0 M = some q) : AW l m_X5_expect 1 0 0 (x_Rv q) 0 0 46 [some (.ref v0), none] [] M := by
  unfold f_X5_expect_46 at H
  refine x_aload_n 46 0 dX5_expect_46 rfl rfl ?_
  refine x_aload_n 47 0 dX5_expect_47 rfl rfl ?_
  obtain ⟨h4, H⟩ := x_ckp H
  refine x_getf 48 46 5 4 (.int (x_i M v0 4)) dX5_expect_48 lk_220 (by decide) (by decide) rfl (fun _ => rfl) h4 ?_
  obtain ⟨M5, w6, H⟩ := x_lt_of H
  have h7 : x_tag M5 v0 = 5 + 10 := by rw [w6]; exact h4
  refine x_putI' 51 9 5 0 dX5_expect_51 lk_214 (by decide) (by decide) rfl (Or.inl rfl) (Or.inl rfl) h4 w6 ?_
  cases H
  exact x_vret 54 dX5_expect_54 rfl (Nat.le_of_ble_eq_true rfl) (Nat.le_of_ble_eq_true rfl) ⟨rfl, rfl⟩

def f_X5_expect (v0 : Nat) (v1 : Int32) (M : XM) : Option XM :=
  if x_tag M v0 = 5 + 10 then (if (x_i M v0 0) = (-1 : Int32) then (if (x_i M v0 3) ≤ (x_i M v0 4) then (f_X5_expect_46 v0 M) else (if x_at M (x_r M v0 2) 1 (x_i M v0 4) = true then (if (x_i M (x_r M v0 2) (x_i M v0 4).toNatClampNeg) = v1 then (x_lt (x_wi M v0 4 ((x_i M v0 4) + (1 : Int32))) (fun M10 => some M10)) else (f_X5_expect_46 v0 M)) else none)) else (some M)) else none
set_option maxRecDepth 20000 in
set_option maxHeartbeats 4000000 in
theorem t_X5_expect (l : Launch) {v0 : Nat} {v1 : Int32} {M : XM} {q : XM} (H : f_X5_expect v0 v1 M = some q) : AW l m_X5_expect 1 0 0 (x_Rv q) 0 0 0 [some (.ref v0), some (.int v1)] [] M := by
  unfold f_X5_expect at H
  refine x_aload_n 0 0 dX5_expect_0 rfl rfl ?_
  obtain ⟨h1, H⟩ := x_ckp H
  refine x_getf 1 9 5 0 (.int (x_i M v0 0)) dX5_expect_1 lk_214 (by decide) (by decide) rfl (fun _ => rfl) h1 ?_
  refine x_iconst 4 (-1 : Int32) dX5_expect_4 (by decide) ?_
  refine x_icmp_eq 5 9 dX5_expect_5 (by decide) (fun c2 => ?_) (fun c2 => ?_)
  · replace H := x_ifp c2 H
    refine x_aload_n 9 0 dX5_expect_9 rfl rfl ?_
    refine x_getf 10 46 5 4 (.int (x_i M v0 4)) dX5_expect_10 lk_220 (by decide) (by decide) rfl (fun _ => rfl) h1 ?_
    refine x_aload_n 13 0 dX5_expect_13 rfl rfl ?_
    refine x_getf 14 41 5 3 (.int (x_i M v0 3)) dX5_expect_14 lk_219 (by decide) (by decide) rfl (fun _ => rfl) h1 ?_
    refine x_icmp_ge 17 46 dX5_expect_17 (by decide) (fun c3 => ?_) (fun c3 => ?_)
    · replace H := x_ifp c3 H
      exact x_wk (le_s (le_n le_0)) (t_X5_expect_46 l H)
    · replace H := x_ifn c3 H
      refine x_aload_n 20 0 dX5_expect_20 rfl rfl ?_
      refine x_getf 21 22 5 2 (.ref (x_r M v0 2)) dX5_expect_21 lk_218 (by decide) (by decide) rfl (fun _ => rfl) h1 ?_
      refine x_aload_n 24 0 dX5_expect_24 rfl rfl ?_
      refine x_getf 25 46 5 4 (.int (x_i M v0 4)) dX5_expect_25 lk_220 (by decide) (by decide) rfl (fun _ => rfl) h1 ?_
      obtain ⟨h8, H⟩ := x_ckp H
      refine x_iald 28 dX5_expect_28 h8 ?_
      refine x_iload_n 29 1 dX5_expect_29 rfl rfl ?_
      refine x_icmp_ne 30 46 dX5_expect_30 (by decide) (fun c9 => ?_) (fun c9 => ?_)
      · replace H := x_ifn c9 H
        exact x_wk (le_s (le_n le_0)) (t_X5_expect_46 l H)
      · replace H := x_ifp c9 H
        refine x_aload_n 33 0 dX5_expect_33 rfl rfl ?_
        refine x_dup 34 dX5_expect_34 rfl ?_
        refine x_getf 35 46 5 4 (.int (x_i M v0 4)) dX5_expect_35 lk_220 (by decide) (by decide) rfl (fun _ => rfl) h1 ?_
        refine x_iconst 38 (1 : Int32) dX5_expect_38 (by decide) ?_
        refine x_iadd 39 dX5_expect_39 ?_
        obtain ⟨M10, w11, H⟩ := x_lt_of H
        have h12 : x_tag M10 v0 = 5 + 10 := by rw [w11]; exact h1
        have h13 : x_at M10 (x_r M v0 2) 1 (x_i M v0 4) = true := by rw [w11]; exact h8
        have h14 : x_tag M10 (x_r M v0 2) = 1 := by rw [w11]; exact (x_at_1 h8)
        refine x_putI' 40 46 5 4 dX5_expect_40 lk_220 (by decide) (by decide) rfl (Or.inl rfl) (Or.inl rfl) h1 w11 ?_
        refine x_goto 43 54 dX5_expect_43 (by decide) ?_
        cases H
        exact x_vret 54 dX5_expect_54 rfl (Nat.le_of_ble_eq_true rfl) (Nat.le_of_ble_eq_true rfl) ⟨rfl, rfl⟩
  · replace H := x_ifn c2 H
    cases H
    exact x_vret 8 dX5_expect_8 rfl (Nat.le_of_ble_eq_true rfl) (Nat.le_of_ble_eq_true rfl) ⟨rfl, rfl⟩

theorem ct_X5_expect (l : Launch) {v0 : Nat} {v1 : Int32} {M : XM} {q : XM} (H : f_X5_expect v0 v1 M = some q) : Ct l m_X5_expect 1 0 0 [(.ref v0), (.int v1)] M (x_Rv q) := x_met l m_X5_expect 1 0 0 [(.ref v0), (.int v1)] M (x_Rv q) _ rfl rfl (Nat.le_of_ble_eq_true rfl) (t_X5_expect l H)
theorem lk_674 : Cond.code yX5_expect cX5_expect 2 none ∈ x_TB := x_tb (k := 674) (by decide +kernel) rfl
theorem lk_671 : Cond.methodLink RX5 52 yX5_expect ∈ x_TB := x_tb (k := 671) (by decide +kernel) rfl
theorem lk_9 : Cond.selects RX5 yX5_expect yX5_expect ∈ x_TB := x_tb (k := 9) (by decide +kernel) rfl
theorem lk_673 : Cond.instanceMethod yX5_expect ∈ x_TB := x_tb (k := 673) (by decide +kernel) rfl
abbrev m_X5_readNumber : XU := (yX5_readNumber, cX5_readNumber, 5, (some .int))
theorem cn_X5_readNumber : m_X5_readNumber.1.cls ≠ "java/lang/invoke/MethodHandle" ∧ m_X5_readNumber.1.cls ≠ "java/lang/invoke/VarHandle" ∧ (parseMethodDescriptor m_X5_readNumber.1.desc).map (fun q => q.parameters.length) = some 2 := by decide +kernel
def f_X5_readNumber_120 (v0 : Nat) (v3 : Int32) (v4 : Int32) (M : XM) : Option (Int32 × XM) :=
  if x_tag M v0 = 5 + 10 then (x_lt (x_wi M v0 0 v3) (fun M8 => some (v4, M8))) else none
set_option maxRecDepth 20000 in
set_option maxHeartbeats 4000000 in
theorem t_X5_readNumber_120 (l : Launch) {v0 : Nat} {v3 : Int32} {v4 : Int32} {M : XM} {q : Int32 × XM} (H : f_X5_readNumber_120 v0 v3 v4 M = some q) : AW l m_X5_readNumber 1 0 0 (x_Ri q) 0 0 120 [some (.ref v0), none, none, some (.int v3), some (.int v4)] [] M := by
  unfold f_X5_readNumber_120 at H
  refine x_aload_n 120 0 dX5_readNumber_120 rfl rfl ?_
  refine x_iload_n 121 3 dX5_readNumber_121 rfl rfl ?_
  obtain ⟨h7, H⟩ := x_ckp H
  obtain ⟨M8, w9, H⟩ := x_lt_of H
  have h10 : x_tag M8 v0 = 5 + 10 := by rw [w9]; exact h7
  refine x_putI' 122 9 5 0 dX5_readNumber_122 lk_214 (by decide) (by decide) rfl (Or.inl rfl) (Or.inl rfl) h7 w9 ?_
  refine x_iload 125 4 dX5_readNumber_125 rfl ?_
  cases H
  exact x_iret 127 dX5_readNumber_127 .int rfl rfl (Nat.le_of_ble_eq_true rfl) (Nat.le_of_ble_eq_true rfl) ⟨rfl, rfl⟩

def f_X5_readNumber_100 (v0 : Nat) (v1 : Int32) (v2 : Int32) (v3 : Int32) (v4 : Int32) (M : XM) : Option (Int32 × XM) :=
  if x_tag M v0 = 5 + 10 then (if (x_i M v0 4) = v3 then (f_X5_readNumber_120 v0 v3 v4 M) else (if v4 < v1 then (f_X5_readNumber_120 v0 v3 v4 M) else (if v4 ≤ v2 then (some (v4, M)) else (f_X5_readNumber_120 v0 v3 v4 M)))) else none
set_option maxRecDepth 20000 in
set_option maxHeartbeats 4000000 in
theorem t_X5_readNumber_100 (l : Launch) {v0 : Nat} {v1 : Int32} {v2 : Int32} {v3 : Int32} {v4 : Int32} {M : XM} {q : Int32 × XM} (H : f_X5_readNumber_100 v0 v1 v2 v3 v4 M = some q) : AW l m_X5_readNumber 1 0 0 (x_Ri q) 0 0 100 [some (.ref v0), some (.int v1), some (.int v2), some (.int v3), some (.int v4)] [] M := by
  unfold f_X5_readNumber_100 at H
  refine x_aload_n 100 0 dX5_readNumber_100 rfl rfl ?_
  obtain ⟨h5, H⟩ := x_ckp H
  refine x_getf 101 46 5 4 (.int (x_i M v0 4)) dX5_readNumber_101 lk_220 (by decide) (by decide) rfl (fun _ => rfl) h5 ?_
  refine x_iload_n 104 3 dX5_readNumber_104 rfl rfl ?_
  refine x_icmp_eq 105 120 dX5_readNumber_105 (by decide) (fun c6 => ?_) (fun c6 => ?_)
  · replace H := x_ifp c6 H
    exact x_wk (le_s (le_n (le_n (le_s (le_s le_0))))) (t_X5_readNumber_120 l H)
  · replace H := x_ifn c6 H
    refine x_iload 108 4 dX5_readNumber_108 rfl ?_
    refine x_iload_n 110 1 dX5_readNumber_110 rfl rfl ?_
    refine x_icmp_lt 111 120 dX5_readNumber_111 (by decide) (fun c11 => ?_) (fun c11 => ?_)
    · replace H := x_ifp c11 H
      exact x_wk (le_s (le_n (le_n (le_s (le_s le_0))))) (t_X5_readNumber_120 l H)
    · replace H := x_ifn c11 H
      refine x_iload 114 4 dX5_readNumber_114 rfl ?_
      refine x_iload_n 116 2 dX5_readNumber_116 rfl rfl ?_
      refine x_icmp_le 117 125 dX5_readNumber_117 (by decide) (fun c12 => ?_) (fun c12 => ?_)
      · replace H := x_ifp c12 H
        refine x_iload 125 4 dX5_readNumber_125 rfl ?_
        cases H
        exact x_iret 127 dX5_readNumber_127 .int rfl rfl (Nat.le_of_ble_eq_true rfl) (Nat.le_of_ble_eq_true rfl) ⟨rfl, rfl⟩
      · replace H := x_ifn c12 H
        exact x_wk (le_s (le_n (le_n (le_s (le_s le_0))))) (t_X5_readNumber_120 l H)

def bd_X5_readNumber_18 (κ18 : Nat → Int32 → Int32 → Int32 → Int32 → XM → Option (Int32 × XM)) (v0 : Nat) (v1 : Int32) (v2 : Int32) (v3 : Int32) (v4 : Int32) (M : XM) : Option (Int32 × XM) :=
  if x_tag M v0 = 5 + 10 then (if (x_i M v0 3) ≤ (x_i M v0 4) then (f_X5_readNumber_100 v0 v1 v2 v3 v4 M) else (if (4 : Int32) ≤ ((x_i M v0 4) - v3) then (f_X5_readNumber_100 v0 v1 v2 v3 v4 M) else (if x_at M (x_r M v0 2) 1 (x_i M v0 4) = true then (if (x_i M (x_r M v0 2) (x_i M v0 4).toNatClampNeg) < (48 : Int32) then (f_X5_readNumber_100 v0 v1 v2 v3 v4 M) else (if (57 : Int32) < (x_i M (x_r M v0 2) (x_i M v0 4).toNatClampNeg) then (f_X5_readNumber_100 v0 v1 v2 v3 v4 M) else (x_lt (x_wi M v0 4 ((x_i M v0 4) + (1 : Int32))) (fun M17 => κ18 v0 v1 v2 v3 (((v4 * (10 : Int32)) + (x_i M (x_r M v0 2) (x_i M v0 4).toNatClampNeg)) - (48 : Int32)) M17)))) else none))) else none
set_option maxRecDepth 20000 in
set_option maxHeartbeats 4000000 in
theorem tb_X5_readNumber_18 (l : Launch) {κ18 : Nat → Int32 → Int32 → Int32 → Int32 → XM → Option (Int32 × XM)} {v0 : Nat} {v1 : Int32} {v2 : Int32} {v3 : Int32} {v4 : Int32} {M : XM} {q : Int32 × XM} (hκ18 : ∀ (v0 : Nat) (v1 : Int32) (v2 : Int32) (v3 : Int32) (v4 : Int32) (M : XM), κ18 v0 v1 v2 v3 v4 M = some q → AW l m_X5_readNumber 1 0 0 (x_Ri q) 0 0 18 [some (.ref v0), some (.int v1), some (.int v2), some (.int v3), some (.int v4)] [] M) (H : bd_X5_readNumber_18 κ18 v0 v1 v2 v3 v4 M = some q) : AW l m_X5_readNumber 1 0 0 (x_Ri q) 0 0 18 [some (.ref v0), some (.int v1), some (.int v2), some (.int v3), some (.int v4)] [] M := by
  unfold bd_X5_readNumber_18 at H
  refine x_aload_n 18 0 dX5_readNumber_18 rfl rfl ?_
  obtain ⟨h3, H⟩ := x_ckp H
  refine x_getf 19 46 5 4 (.int (x_i M v0 4)) dX5_readNumber_19 lk_220 (by decide) (by decide) rfl (fun _ => rfl) h3 ?_
  refine x_aload_n 22 0 dX5_readNumber_22 rfl rfl ?_
  refine x_getf 23 41 5 3 (.int (x_i M v0 3)) dX5_readNumber_23 lk_219 (by decide) (by decide) rfl (fun _ => rfl) h3 ?_
  refine x_icmp_ge 26 100 dX5_readNumber_26 (by decide) (fun c4 => ?_) (fun c4 => ?_)
  · replace H := x_ifp c4 H
    exact t_X5_readNumber_100 l H
  · replace H := x_ifn c4 H
    refine x_aload_n 29 0 dX5_readNumber_29 rfl rfl ?_
    refine x_getf 30 46 5 4 (.int (x_i M v0 4)) dX5_readNumber_30 lk_220 (by decide) (by decide) rfl (fun _ => rfl) h3 ?_
    refine x_iload_n 33 3 dX5_readNumber_33 rfl rfl ?_
    refine x_isub 34 dX5_readNumber_34 ?_
    refine x_iconst 35 (4 : Int32) dX5_readNumber_35 (by decide) ?_
    refine x_icmp_ge 36 100 dX5_readNumber_36 (by decide) (fun c13 => ?_) (fun c13 => ?_)
    · replace H := x_ifp c13 H
      exact t_X5_readNumber_100 l H
    · replace H := x_ifn c13 H
      refine x_aload_n 39 0 dX5_readNumber_39 rfl rfl ?_
      refine x_getf 40 22 5 2 (.ref (x_r M v0 2)) dX5_readNumber_40 lk_218 (by decide) (by decide) rfl (fun _ => rfl) h3 ?_
      refine x_aload_n 43 0 dX5_readNumber_43 rfl rfl ?_
      refine x_getf 44 46 5 4 (.int (x_i M v0 4)) dX5_readNumber_44 lk_220 (by decide) (by decide) rfl (fun _ => rfl) h3 ?_
      obtain ⟨h14, H⟩ := x_ckp H
      refine x_iald 47 dX5_readNumber_47 h14 ?_
      refine x_bipush 48 (48 : Int32) dX5_readNumber_48 (by decide) ?_
      refine x_icmp_lt 50 100 dX5_readNumber_50 (by decide) (fun c15 => ?_) (fun c15 => ?_)
      · replace H := x_ifp c15 H
        exact t_X5_readNumber_100 l H
      · replace H := x_ifn c15 H
        refine x_aload_n 53 0 dX5_readNumber_53 rfl rfl ?_
        refine x_getf 54 22 5 2 (.ref (x_r M v0 2)) dX5_readNumber_54 lk_218 (by decide) (by decide) rfl (fun _ => rfl) h3 ?_
        refine x_aload_n 57 0 dX5_readNumber_57 rfl rfl ?_
        refine x_getf 58 46 5 4 (.int (x_i M v0 4)) dX5_readNumber_58 lk_220 (by decide) (by decide) rfl (fun _ => rfl) h3 ?_
        refine x_iald 61 dX5_readNumber_61 h14 ?_
        refine x_bipush 62 (57 : Int32) dX5_readNumber_62 (by decide) ?_
        refine x_icmp_gt 64 100 dX5_readNumber_64 (by decide) (fun c16 => ?_) (fun c16 => ?_)
        · replace H := x_ifp c16 H
          exact t_X5_readNumber_100 l H
        · replace H := x_ifn c16 H
          refine x_iload 67 4 dX5_readNumber_67 rfl ?_
          refine x_bipush 69 (10 : Int32) dX5_readNumber_69 (by decide) ?_
          refine x_imul 71 dX5_readNumber_71 ?_
          refine x_aload_n 72 0 dX5_readNumber_72 rfl rfl ?_
          refine x_getf 73 22 5 2 (.ref (x_r M v0 2)) dX5_readNumber_73 lk_218 (by decide) (by decide) rfl (fun _ => rfl) h3 ?_
          refine x_aload_n 76 0 dX5_readNumber_76 rfl rfl ?_
          refine x_getf 77 46 5 4 (.int (x_i M v0 4)) dX5_readNumber_77 lk_220 (by decide) (by decide) rfl (fun _ => rfl) h3 ?_
          refine x_iald 80 dX5_readNumber_80 h14 ?_
          refine x_iadd 81 dX5_readNumber_81 ?_
          refine x_bipush 82 (48 : Int32) dX5_readNumber_82 (by decide) ?_
          refine x_isub 84 dX5_readNumber_84 ?_
          refine x_istore 85 4 [some (.ref v0), some (.int v1), some (.int v2), some (.int v3), some (.int (((v4 * (10 : Int32)) + (x_i M (x_r M v0 2) (x_i M v0 4).toNatClampNeg)) - (48 : Int32)))] dX5_readNumber_85 rfl (Nat.le_of_ble_eq_true rfl) rfl ?_
          refine x_aload_n 87 0 dX5_readNumber_87 rfl rfl ?_
          refine x_dup 88 dX5_readNumber_88 rfl ?_
          refine x_getf 89 46 5 4 (.int (x_i M v0 4)) dX5_readNumber_89 lk_220 (by decide) (by decide) rfl (fun _ => rfl) h3 ?_
          refine x_iconst 92 (1 : Int32) dX5_readNumber_92 (by decide) ?_
          refine x_iadd 93 dX5_readNumber_93 ?_
          obtain ⟨M17, w18, H⟩ := x_lt_of H
          have h19 : x_tag M17 v0 = 5 + 10 := by rw [w18]; exact h3
          have h20 : x_at M17 (x_r M v0 2) 1 (x_i M v0 4) = true := by rw [w18]; exact h14
          have h21 : x_tag M17 (x_r M v0 2) = 1 := by rw [w18]; exact (x_at_1 h14)
          refine x_putI' 94 46 5 4 dX5_readNumber_94 lk_220 (by decide) (by decide) rfl (Or.inl rfl) (Or.inl rfl) h3 w18 ?_
          refine x_goto 97 18 dX5_readNumber_97 (by decide) ?_
          exact hκ18 _ _ _ _ _ _ H

def lp_X5_readNumber_18 (n : Nat) : Nat → Int32 → Int32 → Int32 → Int32 → XM → Option (Int32 × XM) := x_rec (fun _ _ _ _ _ _ => none) (bd_X5_readNumber_18) n
theorem t_X5_readNumber_18 (l : Launch) {q : Int32 × XM} : ∀ (n : Nat) (v0 : Nat) (v1 : Int32) (v2 : Int32) (v3 : Int32) (v4 : Int32) (M : XM), lp_X5_readNumber_18 n v0 v1 v2 v3 v4 M = some q → AW l m_X5_readNumber 1 0 0 (x_Ri q) 0 0 18 [some (.ref v0), some (.int v1), some (.int v2), some (.int v3), some (.int v4)] [] M := by
  intro n
  induction n with
  | zero => intro v0 v1 v2 v3 v4 M H; cases H
  | succ n ih => intro v0 v1 v2 v3 v4 M H; exact tb_X5_readNumber_18 l ih H
def f_X5_readNumber (v0 : Nat) (v1 : Int32) (v2 : Int32) (M : XM) : Option (Int32 × XM) :=
  if x_tag M v0 = 5 + 10 then (if (x_i M v0 0) = (-1 : Int32) then (lp_X5_readNumber_18 x_fuel v0 v1 v2 (x_i M v0 4) (0 : Int32) M) else (some ((-1 : Int32), M))) else none
set_option maxRecDepth 20000 in
set_option maxHeartbeats 4000000 in
theorem t_X5_readNumber (l : Launch) {v0 : Nat} {v1 : Int32} {v2 : Int32} {M : XM} {q : Int32 × XM} (H : f_X5_readNumber v0 v1 v2 M = some q) : AW l m_X5_readNumber 1 0 0 (x_Ri q) 0 0 0 [some (.ref v0), some (.int v1), some (.int v2), none, none] [] M := by
  unfold f_X5_readNumber at H
  refine x_aload_n 0 0 dX5_readNumber_0 rfl rfl ?_
  obtain ⟨h1, H⟩ := x_ckp H
  refine x_getf 1 9 5 0 (.int (x_i M v0 0)) dX5_readNumber_1 lk_214 (by decide) (by decide) rfl (fun _ => rfl) h1 ?_
  refine x_iconst 4 (-1 : Int32) dX5_readNumber_4 (by decide) ?_
  refine x_icmp_eq 5 10 dX5_readNumber_5 (by decide) (fun c2 => ?_) (fun c2 => ?_)
  · replace H := x_ifp c2 H
    refine x_aload_n 10 0 dX5_readNumber_10 rfl rfl ?_
    refine x_getf 11 46 5 4 (.int (x_i M v0 4)) dX5_readNumber_11 lk_220 (by decide) (by decide) rfl (fun _ => rfl) h1 ?_
    refine x_istore_n 14 3 [some (.ref v0), some (.int v1), some (.int v2), some (.int (x_i M v0 4)), none] dX5_readNumber_14 rfl rfl (Nat.le_of_ble_eq_true rfl) rfl ?_
    refine x_iconst 15 (0 : Int32) dX5_readNumber_15 (by decide) ?_
    refine x_istore 16 4 [some (.ref v0), some (.int v1), some (.int v2), some (.int (x_i M v0 4)), some (.int (0 : Int32))] dX5_readNumber_16 rfl (Nat.le_of_ble_eq_true rfl) rfl ?_
    exact t_X5_readNumber_18 l _ _ _ _ _ _ _ H
  · replace H := x_ifn c2 H
    refine x_iconst 8 (-1 : Int32) dX5_readNumber_8 (by decide) ?_
    cases H
    exact x_iret 9 dX5_readNumber_9 .int rfl rfl (Nat.le_of_ble_eq_true rfl) (Nat.le_of_ble_eq_true rfl) ⟨rfl, rfl⟩

theorem ct_X5_readNumber (l : Launch) {v0 : Nat} {v1 : Int32} {v2 : Int32} {M : XM} {q : Int32 × XM} (H : f_X5_readNumber v0 v1 v2 M = some q) : Ct l m_X5_readNumber 1 0 0 [(.ref v0), (.int v1), (.int v2)] M (x_Ri q) := x_met l m_X5_readNumber 1 0 0 [(.ref v0), (.int v1), (.int v2)] M (x_Ri q) _ rfl rfl (Nat.le_of_ble_eq_true rfl) (t_X5_readNumber l H)
theorem lk_683 : Cond.code yX5_readNumber cX5_readNumber 5 (some .int) ∈ x_TB := x_tb (k := 683) (by decide +kernel) rfl
theorem lk_680 : Cond.methodLink RX5 87 yX5_readNumber ∈ x_TB := x_tb (k := 680) (by decide +kernel) rfl
theorem lk_11 : Cond.selects RX5 yX5_readNumber yX5_readNumber ∈ x_TB := x_tb (k := 11) (by decide +kernel) rfl
theorem lk_682 : Cond.instanceMethod yX5_readNumber ∈ x_TB := x_tb (k := 682) (by decide +kernel) rfl
theorem lk_528 : Cond.code yX4_addCounter cX4_addCounter 3 (some .int) ∈ x_TB := x_tb (k := 528) (by decide +kernel) rfl
theorem lk_684 : Cond.methodLink RX5 90 yX4_addCounter ∈ x_TB := x_tb (k := 684) (by decide +kernel) rfl
theorem lk_527 : Cond.selects RX4 yX4_addCounter yX4_addCounter ∈ x_TB := x_tb (k := 527) (by decide +kernel) rfl
theorem lk_526 : Cond.instanceMethod yX4_addCounter ∈ x_TB := x_tb (k := 526) (by decide +kernel) rfl
abbrev m_X5_readCounter : XU := (yX5_readCounter, cX5_readCounter, 3, none)
theorem cn_X5_readCounter : m_X5_readCounter.1.cls ≠ "java/lang/invoke/MethodHandle" ∧ m_X5_readCounter.1.cls ≠ "java/lang/invoke/VarHandle" ∧ (parseMethodDescriptor m_X5_readCounter.1.desc).map (fun q => q.parameters.length) = some 0 := by decide +kernel
def f_X5_readCounter_c22 (v0 : Nat) (v1 : Int32) (s0 : Int32) (M : XM) : Option XM :=
  if x_tag M v0 = 5 + 10 then (if (x_i M v0 0) = (-1 : Int32) then (if x_tag M (x_r M v0 1) = 4 + 10 then (x_bd (f_X4_addCounter (x_r M v0 1) v1 s0 M) (fun r18 M17 => some M17)) else none) else (some M)) else none
set_option maxRecDepth 20000 in
set_option maxHeartbeats 4000000 in
theorem t_X5_readCounter_c22 (l : Launch) {v0 : Nat} {v1 : Int32} {s0 : Int32} {M : XM} {q : XM} (H : f_X5_readCounter_c22 v0 v1 s0 M = some q) : AW l m_X5_readCounter 4 0 0 (x_Rv q) 0 0 25 [some (.ref v0), some (.int v1), none] [(.int s0)] M := by
  unfold f_X5_readCounter_c22 at H
  refine x_istore_n 25 2 [some (.ref v0), some (.int v1), some (.int s0)] dX5_readCounter_25 rfl rfl (Nat.le_of_ble_eq_true rfl) rfl ?_
  refine x_aload_n 26 0 dX5_readCounter_26 rfl rfl ?_
  obtain ⟨h14, H⟩ := x_ckp H
  refine x_getf 27 9 5 0 (.int (x_i M v0 0)) dX5_readCounter_27 lk_214 (by decide) (by decide) rfl (fun _ => rfl) h14 ?_
  refine x_iconst 30 (-1 : Int32) dX5_readCounter_30 (by decide) ?_
  refine x_icmp_ne 31 44 dX5_readCounter_31 (by decide) (fun c15 => ?_) (fun c15 => ?_)
  · replace H := x_ifn c15 H
    cases H
    exact x_vret 44 dX5_readCounter_44 rfl (Nat.le_of_ble_eq_true rfl) (Nat.le_of_ble_eq_true rfl) ⟨rfl, rfl⟩
  · replace H := x_ifp c15 H
    refine x_aload_n 34 0 dX5_readCounter_34 rfl rfl ?_
    refine x_getf 35 18 5 1 (.ref (x_r M v0 1)) dX5_readCounter_35 lk_216 (by decide) (by decide) rfl (fun _ => rfl) h14 ?_
    refine x_iload_n 38 1 dX5_readCounter_38 rfl rfl ?_
    refine x_iload_n 39 2 dX5_readCounter_39 rfl rfl ?_
    obtain ⟨h16, H⟩ := x_ckp H
    obtain ⟨r18, M17, e19, H⟩ := x_bd_of H
    refine x_callV 40 90 4 [(.int v1), (.int s0)] [] dX5_readCounter_40 (ct_X4_addCounter l e19) lk_684 lk_526 lk_527 (by decide) h16 lk_86 lk_528 ⟨cn_X4_addCounter, (by decide), by decide⟩ rfl (Nat.le_of_ble_eq_true rfl) (Nat.le_of_ble_eq_true rfl) (Nat.le_of_ble_eq_true rfl) (x_ri ?_)
    refine x_pop 43 dX5_readCounter_43 rfl ?_
    cases H
    exact x_vret 44 dX5_readCounter_44 rfl (Nat.le_of_ble_eq_true rfl) (Nat.le_of_ble_eq_true rfl) ⟨rfl, rfl⟩

def f_X5_readCounter_c15 (v0 : Nat) (v1 : Int32) (M : XM) : Option XM :=
  if x_tag M v0 = 5 + 10 then (x_bd (f_X5_readNumber v0 (0 : Int32) (9 : Int32) M) (f_X5_readCounter_c22 v0 v1)) else none
set_option maxRecDepth 20000 in
set_option maxHeartbeats 4000000 in
theorem t_X5_readCounter_c15 (l : Launch) {v0 : Nat} {v1 : Int32} {M : XM} {q : XM} (H : f_X5_readCounter_c15 v0 v1 M = some q) : AW l m_X5_readCounter 4 0 0 (x_Rv q) 0 0 18 [some (.ref v0), some (.int v1), none] [] M := by
  unfold f_X5_readCounter_c15 at H
  refine x_aload_n 18 0 dX5_readCounter_18 rfl rfl ?_
  refine x_iconst 19 (0 : Int32) dX5_readCounter_19 (by decide) ?_
  refine x_bipush 20 (9 : Int32) dX5_readCounter_20 (by decide) ?_
  obtain ⟨h10, H⟩ := x_ckp H
  obtain ⟨r12, M11, e13, H⟩ := x_bd_of H
  refine x_callV 22 87 5 [(.int (0 : Int32)), (.int (9 : Int32))] [] dX5_readCounter_22 (ct_X5_readNumber l e13) lk_680 lk_682 lk_11 (by decide) h10 lk_88 lk_683 ⟨cn_X5_readNumber, (by decide), by decide⟩ rfl (Nat.le_of_ble_eq_true rfl) (Nat.le_of_ble_eq_true rfl) (Nat.le_of_ble_eq_true rfl) (x_ri ?_)
  exact t_X5_readCounter_c22 l H

def f_X5_readCounter_c8 (v0 : Nat) (s0 : Int32) (M : XM) : Option XM :=
  if x_tag M v0 = 5 + 10 then (x_bv (f_X5_expect v0 (32 : Int32) M) (f_X5_readCounter_c15 v0 s0)) else none
set_option maxRecDepth 20000 in
set_option maxHeartbeats 4000000 in
theorem t_X5_readCounter_c8 (l : Launch) {v0 : Nat} {s0 : Int32} {M : XM} {q : XM} (H : f_X5_readCounter_c8 v0 s0 M = some q) : AW l m_X5_readCounter 4 0 0 (x_Rv q) 0 0 11 [some (.ref v0), none, none] [(.int s0)] M := by
  unfold f_X5_readCounter_c8 at H
  refine x_istore_n 11 1 [some (.ref v0), some (.int s0), none] dX5_readCounter_11 rfl rfl (Nat.le_of_ble_eq_true rfl) rfl ?_
  refine x_aload_n 12 0 dX5_readCounter_12 rfl rfl ?_
  refine x_bipush 13 (32 : Int32) dX5_readCounter_13 (by decide) ?_
  obtain ⟨h6, H⟩ := x_ckp H
  obtain ⟨M7, e9, H⟩ := x_bv_of H
  refine x_callV 15 52 5 [(.int (32 : Int32))] [] dX5_readCounter_15 (ct_X5_expect l e9) lk_671 lk_673 lk_9 (by decide) h6 lk_88 lk_674 ⟨cn_X5_expect, (by decide), by decide⟩ rfl (Nat.le_of_ble_eq_true rfl) (Nat.le_of_ble_eq_true rfl) (Nat.le_of_ble_eq_true rfl) (x_rv ?_)
  exact t_X5_readCounter_c15 l H

def f_X5_readCounter (v0 : Nat) (M : XM) : Option XM :=
  if x_tag M 2 = 5 then (if x_tag M v0 = 5 + 10 then (x_bd (f_X5_readNumber v0 (0 : Int32) ((Int32.ofNat (x_len M 2)) - (1 : Int32)) M) (f_X5_readCounter_c8 v0)) else none) else none
set_option maxRecDepth 20000 in
set_option maxHeartbeats 4000000 in
theorem t_X5_readCounter (l : Launch) {v0 : Nat} {M : XM} {q : XM} (H : f_X5_readCounter v0 M = some q) : AW l m_X5_readCounter 4 0 0 (x_Rv q) 0 0 0 [some (.ref v0), none, none] [] M := by
  unfold f_X5_readCounter at H
  refine x_aload_n 0 0 dX5_readCounter_0 rfl rfl ?_
  refine x_iconst 1 (0 : Int32) dX5_readCounter_1 (by decide) ?_
  refine x_getsN 2 84 2 "ABOVE" "[I" dX5_readCounter_2 "WhatDidYouSay" "WhatDidYouSay" x_ZA (List.mem_of_getElem? (i := 0) rfl) ?_
  obtain ⟨h1, H⟩ := x_ckp H
  refine x_salen 5 dX5_readCounter_5 h1 (by decide) ?_
  refine x_iconst 6 (1 : Int32) dX5_readCounter_6 (by decide) ?_
  refine x_isub 7 dX5_readCounter_7 ?_
  obtain ⟨h2, H⟩ := x_ckp H
  obtain ⟨r4, M3, e5, H⟩ := x_bd_of H
  refine x_callV 8 87 5 [(.int (0 : Int32)), (.int ((Int32.ofNat (x_len M 2)) - (1 : Int32)))] [] dX5_readCounter_8 (ct_X5_readNumber l e5) lk_680 lk_682 lk_11 (by decide) h2 lk_88 lk_683 ⟨cn_X5_readNumber, (by decide), by decide⟩ rfl (Nat.le_of_ble_eq_true rfl) (Nat.le_of_ble_eq_true rfl) (Nat.le_of_ble_eq_true rfl) (x_ri ?_)
  exact t_X5_readCounter_c8 l H

theorem ct_X5_readCounter (l : Launch) {v0 : Nat} {M : XM} {q : XM} (H : f_X5_readCounter v0 M = some q) : Ct l m_X5_readCounter 4 0 0 [(.ref v0)] M (x_Rv q) := x_met l m_X5_readCounter 4 0 0 [(.ref v0)] M (x_Rv q) _ rfl rfl (Nat.le_of_ble_eq_true rfl) (t_X5_readCounter l H)
theorem lk_678 : Cond.code yX5_readCounter cX5_readCounter 3 none ∈ x_TB := x_tb (k := 678) (by decide +kernel) rfl
theorem lk_675 : Cond.methodLink RX5 64 yX5_readCounter ∈ x_TB := x_tb (k := 675) (by decide +kernel) rfl
theorem lk_10 : Cond.selects RX5 yX5_readCounter yX5_readCounter ∈ x_TB := x_tb (k := 10) (by decide +kernel) rfl
theorem lk_677 : Cond.instanceMethod yX5_readCounter ∈ x_TB := x_tb (k := 677) (by decide +kernel) rfl
theorem lk_692 : Cond.code yX4_addTally cX4_addTally 2 (some .int) ∈ x_TB := x_tb (k := 692) (by decide +kernel) rfl
theorem lk_689 : Cond.methodLink RX5 93 yX4_addTally ∈ x_TB := x_tb (k := 689) (by decide +kernel) rfl
theorem lk_691 : Cond.selects RX4 yX4_addTally yX4_addTally ∈ x_TB := x_tb (k := 691) (by decide +kernel) rfl
theorem lk_690 : Cond.instanceMethod yX4_addTally ∈ x_TB := x_tb (k := 690) (by decide +kernel) rfl
abbrev m_X5_readTally : XU := (yX5_readTally, cX5_readTally, 2, none)
theorem cn_X5_readTally : m_X5_readTally.1.cls ≠ "java/lang/invoke/MethodHandle" ∧ m_X5_readTally.1.cls ≠ "java/lang/invoke/VarHandle" ∧ (parseMethodDescriptor m_X5_readTally.1.desc).map (fun q => q.parameters.length) = some 0 := by decide +kernel
def f_X5_readTally_c5 (v0 : Nat) (s0 : Int32) (M : XM) : Option XM :=
  if x_tag M v0 = 5 + 10 then (if (x_i M v0 0) = (-1 : Int32) then (if x_tag M (x_r M v0 1) = 4 + 10 then (x_bd (f_X4_addTally (x_r M v0 1) s0 M) (fun r9 M8 => some M8)) else none) else (some M)) else none
set_option maxRecDepth 20000 in
set_option maxHeartbeats 4000000 in
theorem t_X5_readTally_c5 (l : Launch) {v0 : Nat} {s0 : Int32} {M : XM} {q : XM} (H : f_X5_readTally_c5 v0 s0 M = some q) : AW l m_X5_readTally 2 0 0 (x_Rv q) 0 0 8 [some (.ref v0), none] [(.int s0)] M := by
  unfold f_X5_readTally_c5 at H
  refine x_istore_n 8 1 [some (.ref v0), some (.int s0)] dX5_readTally_8 rfl rfl (Nat.le_of_ble_eq_true rfl) rfl ?_
  refine x_aload_n 9 0 dX5_readTally_9 rfl rfl ?_
  obtain ⟨h5, H⟩ := x_ckp H
  refine x_getf 10 9 5 0 (.int (x_i M v0 0)) dX5_readTally_10 lk_214 (by decide) (by decide) rfl (fun _ => rfl) h5 ?_
  refine x_iconst 13 (-1 : Int32) dX5_readTally_13 (by decide) ?_
  refine x_icmp_ne 14 26 dX5_readTally_14 (by decide) (fun c6 => ?_) (fun c6 => ?_)
  · replace H := x_ifn c6 H
    cases H
    exact x_vret 26 dX5_readTally_26 rfl (Nat.le_of_ble_eq_true rfl) (Nat.le_of_ble_eq_true rfl) ⟨rfl, rfl⟩
  · replace H := x_ifp c6 H
    refine x_aload_n 17 0 dX5_readTally_17 rfl rfl ?_
    refine x_getf 18 18 5 1 (.ref (x_r M v0 1)) dX5_readTally_18 lk_216 (by decide) (by decide) rfl (fun _ => rfl) h5 ?_
    refine x_iload_n 21 1 dX5_readTally_21 rfl rfl ?_
    obtain ⟨h7, H⟩ := x_ckp H
    obtain ⟨r9, M8, e10, H⟩ := x_bd_of H
    refine x_callV 22 93 4 [(.int s0)] [] dX5_readTally_22 (ct_X4_addTally l e10) lk_689 lk_690 lk_691 (by decide) h7 lk_86 lk_692 ⟨cn_X4_addTally, (by decide), by decide⟩ rfl (Nat.le_of_ble_eq_true rfl) (Nat.le_of_ble_eq_true rfl) (Nat.le_of_ble_eq_true rfl) (x_ri ?_)
    refine x_pop 25 dX5_readTally_25 rfl ?_
    cases H
    exact x_vret 26 dX5_readTally_26 rfl (Nat.le_of_ble_eq_true rfl) (Nat.le_of_ble_eq_true rfl) ⟨rfl, rfl⟩

def f_X5_readTally (v0 : Nat) (M : XM) : Option XM :=
  if x_tag M v0 = 5 + 10 then (x_bd (f_X5_readNumber v0 (0 : Int32) (9999 : Int32) M) (f_X5_readTally_c5 v0)) else none
set_option maxRecDepth 20000 in
set_option maxHeartbeats 4000000 in
theorem t_X5_readTally (l : Launch) {v0 : Nat} {M : XM} {q : XM} (H : f_X5_readTally v0 M = some q) : AW l m_X5_readTally 2 0 0 (x_Rv q) 0 0 0 [some (.ref v0), none] [] M := by
  unfold f_X5_readTally at H
  refine x_aload_n 0 0 dX5_readTally_0 rfl rfl ?_
  refine x_iconst 1 (0 : Int32) dX5_readTally_1 (by decide) ?_
  refine x_sipush 2 (9999 : Int32) dX5_readTally_2 (by decide) ?_
  obtain ⟨h1, H⟩ := x_ckp H
  obtain ⟨r3, M2, e4, H⟩ := x_bd_of H
  refine x_callV 5 87 5 [(.int (0 : Int32)), (.int (9999 : Int32))] [] dX5_readTally_5 (ct_X5_readNumber l e4) lk_680 lk_682 lk_11 (by decide) h1 lk_88 lk_683 ⟨cn_X5_readNumber, (by decide), by decide⟩ rfl (Nat.le_of_ble_eq_true rfl) (Nat.le_of_ble_eq_true rfl) (Nat.le_of_ble_eq_true rfl) (x_ri ?_)
  exact t_X5_readTally_c5 l H

theorem ct_X5_readTally (l : Launch) {v0 : Nat} {M : XM} {q : XM} (H : f_X5_readTally v0 M = some q) : Ct l m_X5_readTally 2 0 0 [(.ref v0)] M (x_Rv q) := x_met l m_X5_readTally 2 0 0 [(.ref v0)] M (x_Rv q) _ rfl rfl (Nat.le_of_ble_eq_true rfl) (t_X5_readTally l H)
theorem lk_688 : Cond.code yX5_readTally cX5_readTally 2 none ∈ x_TB := x_tb (k := 688) (by decide +kernel) rfl
theorem lk_685 : Cond.methodLink RX5 67 yX5_readTally ∈ x_TB := x_tb (k := 685) (by decide +kernel) rfl
theorem lk_12 : Cond.selects RX5 yX5_readTally yX5_readTally ∈ x_TB := x_tb (k := 12) (by decide +kernel) rfl
theorem lk_687 : Cond.instanceMethod yX5_readTally ∈ x_TB := x_tb (k := 687) (by decide +kernel) rfl
theorem lk_160 : Cond.fieldLink RX5 96 RX4 "count" "I" ∈ x_TB := x_tb (k := 160) (by decide +kernel) rfl
theorem lk_697 : Cond.methodLink RX5 99 yX4_isThrough ∈ x_TB := x_tb (k := 697) (by decide +kernel) rfl
theorem lk_701 : Cond.methodLink RX5 102 yX4_pass ∈ x_TB := x_tb (k := 701) (by decide +kernel) rfl
abbrev m_X5_readAsk : XU := (yX5_readAsk, cX5_readAsk, 3, none)
theorem cn_X5_readAsk : m_X5_readAsk.1.cls ≠ "java/lang/invoke/MethodHandle" ∧ m_X5_readAsk.1.cls ≠ "java/lang/invoke/VarHandle" ∧ (parseMethodDescriptor m_X5_readAsk.1.desc).map (fun q => q.parameters.length) = some 0 := by decide +kernel
def f_X5_readAsk_c34 (v0 : Nat) (v1 : Int32) (v2 : Int32) (s0 : Int32) (M : XM) : Option XM :=
  if s0 = 0 then (if x_tag M v0 = 5 + 10 then (if x_tag M (x_r M v0 1) = 4 + 10 then (x_bv (f_X4_pass (x_r M v0 1) v2 (1 : Int32) M) (fun M15 => some M15)) else none) else none) else (if x_tag M v0 = 5 + 10 then (x_lt (x_wi M v0 0 v1) (fun M19 => some M19)) else none)
set_option maxRecDepth 20000 in
set_option maxHeartbeats 4000000 in
theorem t_X5_readAsk_c34 (l : Launch) {v0 : Nat} {v1 : Int32} {v2 : Int32} {s0 : Int32} {M : XM} {q : XM} (H : f_X5_readAsk_c34 v0 v1 v2 s0 M = some q) : AW l m_X5_readAsk 4 0 0 (x_Rv q) 0 0 37 [some (.ref v0), some (.int v1), some (.int v2)] [(.int s0)] M := by
  unfold f_X5_readAsk_c34 at H
  refine x_if_eq 37 48 dX5_readAsk_37 (by decide) (fun c12 => ?_) (fun c12 => ?_)
  · replace H := x_ifp c12 H
    refine x_aload_n 48 0 dX5_readAsk_48 rfl rfl ?_
    obtain ⟨h13, H⟩ := x_ckp H
    refine x_getf 49 18 5 1 (.ref (x_r M v0 1)) dX5_readAsk_49 lk_216 (by decide) (by decide) rfl (fun _ => rfl) h13 ?_
    refine x_iload_n 52 2 dX5_readAsk_52 rfl rfl ?_
    refine x_iconst 53 (1 : Int32) dX5_readAsk_53 (by decide) ?_
    obtain ⟨h14, H⟩ := x_ckp H
    obtain ⟨M15, e17, H⟩ := x_bv_of H
    refine x_callV 54 102 4 [(.int v2), (.int (1 : Int32))] [] dX5_readAsk_54 (ct_X4_pass l e17) lk_701 lk_702 lk_703 (by decide) h14 lk_86 lk_704 ⟨cn_X4_pass, (by decide), by decide⟩ rfl (Nat.le_of_ble_eq_true rfl) (Nat.le_of_ble_eq_true rfl) (Nat.le_of_ble_eq_true rfl) (x_rv ?_)
    cases H
    exact x_vret 57 dX5_readAsk_57 rfl (Nat.le_of_ble_eq_true rfl) (Nat.le_of_ble_eq_true rfl) ⟨rfl, rfl⟩
  · replace H := x_ifn c12 H
    refine x_aload_n 40 0 dX5_readAsk_40 rfl rfl ?_
    refine x_iload_n 41 1 dX5_readAsk_41 rfl rfl ?_
    obtain ⟨h18, H⟩ := x_ckp H
    obtain ⟨M19, w20, H⟩ := x_lt_of H
    have h21 : x_tag M19 v0 = 5 + 10 := by rw [w20]; exact h18
    refine x_putI' 42 9 5 0 dX5_readAsk_42 lk_214 (by decide) (by decide) rfl (Or.inl rfl) (Or.inl rfl) h18 w20 ?_
    refine x_goto 45 57 dX5_readAsk_45 (by decide) ?_
    cases H
    exact x_vret 57 dX5_readAsk_57 rfl (Nat.le_of_ble_eq_true rfl) (Nat.le_of_ble_eq_true rfl) ⟨rfl, rfl⟩

def f_X5_readAsk_c16 (v0 : Nat) (v1 : Int32) (s0 : Int32) (M : XM) : Option XM :=
  if x_tag M v0 = 5 + 10 then (if (x_i M v0 0) = (-1 : Int32) then (if x_tag M (x_r M v0 1) = 4 + 10 then (x_bd (f_X4_isThrough (x_r M v0 1) s0 M) (f_X5_readAsk_c34 v0 v1 s0)) else none) else (some M)) else none
set_option maxRecDepth 20000 in
set_option maxHeartbeats 4000000 in
theorem t_X5_readAsk_c16 (l : Launch) {v0 : Nat} {v1 : Int32} {s0 : Int32} {M : XM} {q : XM} (H : f_X5_readAsk_c16 v0 v1 s0 M = some q) : AW l m_X5_readAsk 4 0 0 (x_Rv q) 0 0 19 [some (.ref v0), some (.int v1), none] [(.int s0)] M := by
  unfold f_X5_readAsk_c16 at H
  refine x_istore_n 19 2 [some (.ref v0), some (.int v1), some (.int s0)] dX5_readAsk_19 rfl rfl (Nat.le_of_ble_eq_true rfl) rfl ?_
  refine x_aload_n 20 0 dX5_readAsk_20 rfl rfl ?_
  obtain ⟨h6, H⟩ := x_ckp H
  refine x_getf 21 9 5 0 (.int (x_i M v0 0)) dX5_readAsk_21 lk_214 (by decide) (by decide) rfl (fun _ => rfl) h6 ?_
  refine x_iconst 24 (-1 : Int32) dX5_readAsk_24 (by decide) ?_
  refine x_icmp_eq 25 29 dX5_readAsk_25 (by decide) (fun c7 => ?_) (fun c7 => ?_)
  · replace H := x_ifp c7 H
    refine x_aload_n 29 0 dX5_readAsk_29 rfl rfl ?_
    refine x_getf 30 18 5 1 (.ref (x_r M v0 1)) dX5_readAsk_30 lk_216 (by decide) (by decide) rfl (fun _ => rfl) h6 ?_
    refine x_iload_n 33 2 dX5_readAsk_33 rfl rfl ?_
    obtain ⟨h8, H⟩ := x_ckp H
    obtain ⟨r10, M9, e11, H⟩ := x_bd_of H
    refine x_callV 34 99 4 [(.int s0)] [] dX5_readAsk_34 (ct_X4_isThrough l e11) lk_697 lk_698 lk_699 (by decide) h8 lk_86 lk_700 ⟨cn_X4_isThrough, (by decide), by decide⟩ rfl (Nat.le_of_ble_eq_true rfl) (Nat.le_of_ble_eq_true rfl) (Nat.le_of_ble_eq_true rfl) (x_ri ?_)
    exact t_X5_readAsk_c34 l H
  · replace H := x_ifn c7 H
    cases H
    exact x_vret 28 dX5_readAsk_28 rfl (Nat.le_of_ble_eq_true rfl) (Nat.le_of_ble_eq_true rfl) ⟨rfl, rfl⟩

def f_X5_readAsk (v0 : Nat) (M : XM) : Option XM :=
  if x_tag M v0 = 5 + 10 then (if x_tag M (x_r M v0 1) = 4 + 10 then (x_bd (f_X5_readNumber v0 (0 : Int32) ((x_i M (x_r M v0 1) 1) - (1 : Int32)) M) (f_X5_readAsk_c16 v0 (x_i M v0 4))) else none) else none
set_option maxRecDepth 20000 in
set_option maxHeartbeats 4000000 in
theorem t_X5_readAsk (l : Launch) {v0 : Nat} {M : XM} {q : XM} (H : f_X5_readAsk v0 M = some q) : AW l m_X5_readAsk 4 0 0 (x_Rv q) 0 0 0 [some (.ref v0), none, none] [] M := by
  unfold f_X5_readAsk at H
  refine x_aload_n 0 0 dX5_readAsk_0 rfl rfl ?_
  obtain ⟨h1, H⟩ := x_ckp H
  refine x_getf 1 46 5 4 (.int (x_i M v0 4)) dX5_readAsk_1 lk_220 (by decide) (by decide) rfl (fun _ => rfl) h1 ?_
  refine x_istore_n 4 1 [some (.ref v0), some (.int (x_i M v0 4)), none] dX5_readAsk_4 rfl rfl (Nat.le_of_ble_eq_true rfl) rfl ?_
  refine x_aload_n 5 0 dX5_readAsk_5 rfl rfl ?_
  refine x_iconst 6 (0 : Int32) dX5_readAsk_6 (by decide) ?_
  refine x_aload_n 7 0 dX5_readAsk_7 rfl rfl ?_
  refine x_getf 8 18 5 1 (.ref (x_r M v0 1)) dX5_readAsk_8 lk_216 (by decide) (by decide) rfl (fun _ => rfl) h1 ?_
  obtain ⟨h2, H⟩ := x_ckp H
  refine x_getf 11 96 4 1 (.int (x_i M (x_r M v0 1) 1)) dX5_readAsk_11 lk_160 (by decide) (by decide) rfl (fun _ => rfl) h2 ?_
  refine x_iconst 14 (1 : Int32) dX5_readAsk_14 (by decide) ?_
  refine x_isub 15 dX5_readAsk_15 ?_
  obtain ⟨r4, M3, e5, H⟩ := x_bd_of H
  refine x_callV 16 87 5 [(.int (0 : Int32)), (.int ((x_i M (x_r M v0 1) 1) - (1 : Int32)))] [] dX5_readAsk_16 (ct_X5_readNumber l e5) lk_680 lk_682 lk_11 (by decide) h1 lk_88 lk_683 ⟨cn_X5_readNumber, (by decide), by decide⟩ rfl (Nat.le_of_ble_eq_true rfl) (Nat.le_of_ble_eq_true rfl) (Nat.le_of_ble_eq_true rfl) (x_ri ?_)
  exact t_X5_readAsk_c16 l H

theorem ct_X5_readAsk (l : Launch) {v0 : Nat} {M : XM} {q : XM} (H : f_X5_readAsk v0 M = some q) : Ct l m_X5_readAsk 4 0 0 [(.ref v0)] M (x_Rv q) := x_met l m_X5_readAsk 4 0 0 [(.ref v0)] M (x_Rv q) _ rfl rfl (Nat.le_of_ble_eq_true rfl) (t_X5_readAsk l H)
theorem lk_696 : Cond.code yX5_readAsk cX5_readAsk 3 none ∈ x_TB := x_tb (k := 696) (by decide +kernel) rfl
theorem lk_693 : Cond.methodLink RX5 70 yX5_readAsk ∈ x_TB := x_tb (k := 693) (by decide +kernel) rfl
theorem lk_13 : Cond.selects RX5 yX5_readAsk yX5_readAsk ∈ x_TB := x_tb (k := 13) (by decide +kernel) rfl
theorem lk_695 : Cond.instanceMethod yX5_readAsk ∈ x_TB := x_tb (k := 695) (by decide +kernel) rfl
theorem lk_548 : Cond.fieldLink RX8 184 "WhatDidYouSay" "MOST" "[I" ∈ x_TB := x_tb (k := 548) (by decide +kernel) rfl
abbrev m_X8_isSetting : XU := (yX8_isSetting, cX8_isSetting, 1, (some .boolean))
theorem cn_X8_isSetting : m_X8_isSetting.1.cls ≠ "java/lang/invoke/MethodHandle" ∧ m_X8_isSetting.1.cls ≠ "java/lang/invoke/VarHandle" ∧ (parseMethodDescriptor m_X8_isSetting.1.desc).map (fun q => q.parameters.length) = some 1 := by decide +kernel
def f_X8_isSetting (v0 : Int32) (M : XM) : Option (Int32 × XM) :=
  if v0 < 0 then (some ((0 : Int32), M)) else (if x_tag M 4 = 5 then (if (Int32.ofNat (x_len M 4)) ≤ v0 then (some ((0 : Int32), M)) else (some ((1 : Int32), M))) else none)
set_option maxRecDepth 20000 in
set_option maxHeartbeats 4000000 in
theorem t_X8_isSetting (l : Launch) {v0 : Int32} {M : XM} {q : Int32 × XM} (H : f_X8_isSetting v0 M = some q) : AW l m_X8_isSetting 1 0 0 (x_Ri q) 0 0 0 [some (.int v0)] [] M := by
  unfold f_X8_isSetting at H
  refine x_iload_n 0 0 dX8_isSetting_0 rfl rfl ?_
  refine x_if_lt 1 16 dX8_isSetting_1 (by decide) (fun c1 => ?_) (fun c1 => ?_)
  · replace H := x_ifp c1 H
    refine x_iconst 16 (0 : Int32) dX8_isSetting_16 (by decide) ?_
    cases H
    exact x_iret 17 dX8_isSetting_17 .boolean rfl rfl (Nat.le_of_ble_eq_true rfl) (Nat.le_of_ble_eq_true rfl) ⟨rfl, rfl⟩
  · replace H := x_ifn c1 H
    refine x_iload_n 4 0 dX8_isSetting_4 rfl rfl ?_
    refine x_gets 5 184 4 "MOST" "[I" dX8_isSetting_5 "WhatDidYouSay" x_ZM lk_548 ?_
    obtain ⟨h2, H⟩ := x_ckp H
    refine x_salen 8 dX8_isSetting_8 h2 (by decide) ?_
    refine x_icmp_ge 9 16 dX8_isSetting_9 (by decide) (fun c3 => ?_) (fun c3 => ?_)
    · replace H := x_ifp c3 H
      refine x_iconst 16 (0 : Int32) dX8_isSetting_16 (by decide) ?_
      cases H
      exact x_iret 17 dX8_isSetting_17 .boolean rfl rfl (Nat.le_of_ble_eq_true rfl) (Nat.le_of_ble_eq_true rfl) ⟨rfl, rfl⟩
    · replace H := x_ifn c3 H
      refine x_iconst 12 (1 : Int32) dX8_isSetting_12 (by decide) ?_
      refine x_goto 13 17 dX8_isSetting_13 (by decide) ?_
      cases H
      exact x_iret 17 dX8_isSetting_17 .boolean rfl rfl (Nat.le_of_ble_eq_true rfl) (Nat.le_of_ble_eq_true rfl) ⟨rfl, rfl⟩

theorem ct_X8_isSetting (l : Launch) {v0 : Int32} {M : XM} {q : Int32 × XM} (H : f_X8_isSetting v0 M = some q) : Ct l m_X8_isSetting 1 0 0 [(.int v0)] M (x_Ri q) := x_met l m_X8_isSetting 1 0 0 [(.int v0)] M (x_Ri q) _ rfl rfl (Nat.le_of_ble_eq_true rfl) (t_X8_isSetting l H)
theorem lk_547 : Cond.code yX8_isSetting cX8_isSetting 1 (some .boolean) ∈ x_TB := x_tb (k := 547) (by decide +kernel) rfl
theorem lk_546 : Cond.static yX8_isSetting ∈ x_TB := x_tb (k := 546) (by decide +kernel) rfl
theorem lk_555 : Cond.code yX4_change cX4_change 4 (some .int) ∈ x_TB := x_tb (k := 555) (by decide +kernel) rfl
theorem lk_721 : Cond.methodLink RX5 115 yX4_change ∈ x_TB := x_tb (k := 721) (by decide +kernel) rfl
theorem lk_554 : Cond.selects RX4 yX4_change yX4_change ∈ x_TB := x_tb (k := 554) (by decide +kernel) rfl
theorem lk_553 : Cond.instanceMethod yX4_change ∈ x_TB := x_tb (k := 553) (by decide +kernel) rfl
abbrev m_X5_readSetting : XU := (yX5_readSetting, cX5_readSetting, 3, none)
theorem cn_X5_readSetting : m_X5_readSetting.1.cls ≠ "java/lang/invoke/MethodHandle" ∧ m_X5_readSetting.1.cls ≠ "java/lang/invoke/VarHandle" ∧ (parseMethodDescriptor m_X5_readSetting.1.desc).map (fun q => q.parameters.length) = some 1 := by decide +kernel
def f_X5_readSetting_c19 (v0 : Nat) (v1 : Int32) (s0 : Int32) (M : XM) : Option XM :=
  if x_tag M v0 = 5 + 10 then (if (x_i M v0 0) = (-1 : Int32) then (if x_tag M (x_r M v0 1) = 4 + 10 then (x_bd (f_X4_change (x_r M v0 1) v1 s0 M) (fun r15 M14 => some M14)) else none) else (some M)) else none
set_option maxRecDepth 20000 in
set_option maxHeartbeats 4000000 in
theorem t_X5_readSetting_c19 (l : Launch) {v0 : Nat} {v1 : Int32} {s0 : Int32} {M : XM} {q : XM} (H : f_X5_readSetting_c19 v0 v1 s0 M = some q) : AW l m_X5_readSetting 3 0 0 (x_Rv q) 0 0 22 [some (.ref v0), some (.int v1), none] [(.int s0)] M := by
  unfold f_X5_readSetting_c19 at H
  refine x_istore_n 22 2 [some (.ref v0), some (.int v1), some (.int s0)] dX5_readSetting_22 rfl rfl (Nat.le_of_ble_eq_true rfl) rfl ?_
  refine x_aload_n 23 0 dX5_readSetting_23 rfl rfl ?_
  obtain ⟨h11, H⟩ := x_ckp H
  refine x_getf 24 9 5 0 (.int (x_i M v0 0)) dX5_readSetting_24 lk_214 (by decide) (by decide) rfl (fun _ => rfl) h11 ?_
  refine x_iconst 27 (-1 : Int32) dX5_readSetting_27 (by decide) ?_
  refine x_icmp_ne 28 41 dX5_readSetting_28 (by decide) (fun c12 => ?_) (fun c12 => ?_)
  · replace H := x_ifn c12 H
    cases H
    exact x_vret 41 dX5_readSetting_41 rfl (Nat.le_of_ble_eq_true rfl) (Nat.le_of_ble_eq_true rfl) ⟨rfl, rfl⟩
  · replace H := x_ifp c12 H
    refine x_aload_n 31 0 dX5_readSetting_31 rfl rfl ?_
    refine x_getf 32 18 5 1 (.ref (x_r M v0 1)) dX5_readSetting_32 lk_216 (by decide) (by decide) rfl (fun _ => rfl) h11 ?_
    refine x_iload_n 35 1 dX5_readSetting_35 rfl rfl ?_
    refine x_iload_n 36 2 dX5_readSetting_36 rfl rfl ?_
    obtain ⟨h13, H⟩ := x_ckp H
    obtain ⟨r15, M14, e16, H⟩ := x_bd_of H
    refine x_callV 37 115 4 [(.int v1), (.int s0)] [] dX5_readSetting_37 (ct_X4_change l e16) lk_721 lk_553 lk_554 (by decide) h13 lk_86 lk_555 ⟨cn_X4_change, (by decide), by decide⟩ rfl (Nat.le_of_ble_eq_true rfl) (Nat.le_of_ble_eq_true rfl) (Nat.le_of_ble_eq_true rfl) (x_ri ?_)
    refine x_pop 40 dX5_readSetting_40 rfl ?_
    cases H
    exact x_vret 41 dX5_readSetting_41 rfl (Nat.le_of_ble_eq_true rfl) (Nat.le_of_ble_eq_true rfl) ⟨rfl, rfl⟩

def f_X5_readSetting_c1 (v0 : Nat) (v1 : Int32) (s0 : Int32) (M : XM) : Option XM :=
  if s0 = 0 then (some M) else (if x_at M 3 5 v1 = true then (if x_at M 4 5 v1 = true then (if x_tag M v0 = 5 + 10 then (x_bd (f_X5_readNumber v0 (x_i M 3 v1.toNatClampNeg) (x_i M 4 v1.toNatClampNeg) M) (f_X5_readSetting_c19 v0 v1)) else none) else none) else none)
set_option maxRecDepth 20000 in
set_option maxHeartbeats 4000000 in
theorem t_X5_readSetting_c1 (l : Launch) {v0 : Nat} {v1 : Int32} {s0 : Int32} {M : XM} {q : XM} (H : f_X5_readSetting_c1 v0 v1 s0 M = some q) : AW l m_X5_readSetting 3 0 0 (x_Rv q) 0 0 4 [some (.ref v0), some (.int v1), none] [(.int s0)] M := by
  unfold f_X5_readSetting_c1 at H
  refine x_if_ne 4 8 dX5_readSetting_4 (by decide) (fun c4 => ?_) (fun c4 => ?_)
  · replace H := x_ifn c4 H
    refine x_aload_n 8 0 dX5_readSetting_8 rfl rfl ?_
    refine x_getsN 9 109 3 "LEAST" "[I" dX5_readSetting_9 "WhatDidYouSay" "WhatDidYouSay" x_ZL (List.mem_of_getElem? (i := 1) rfl) ?_
    refine x_iload_n 12 1 dX5_readSetting_12 rfl rfl ?_
    obtain ⟨h5, H⟩ := x_ckp H
    refine x_siald 13 dX5_readSetting_13 h5 (by decide) ?_
    refine x_getsN 14 112 4 "MOST" "[I" dX5_readSetting_14 "WhatDidYouSay" "WhatDidYouSay" x_ZM (List.mem_of_getElem? (i := 2) rfl) ?_
    refine x_iload_n 17 1 dX5_readSetting_17 rfl rfl ?_
    obtain ⟨h6, H⟩ := x_ckp H
    refine x_siald 18 dX5_readSetting_18 h6 (by decide) ?_
    obtain ⟨h7, H⟩ := x_ckp H
    obtain ⟨r9, M8, e10, H⟩ := x_bd_of H
    refine x_callV 19 87 5 [(.int (x_i M 3 v1.toNatClampNeg)), (.int (x_i M 4 v1.toNatClampNeg))] [] dX5_readSetting_19 (ct_X5_readNumber l e10) lk_680 lk_682 lk_11 (by decide) h7 lk_88 lk_683 ⟨cn_X5_readNumber, (by decide), by decide⟩ rfl (Nat.le_of_ble_eq_true rfl) (Nat.le_of_ble_eq_true rfl) (Nat.le_of_ble_eq_true rfl) (x_ri ?_)
    exact t_X5_readSetting_c19 l H
  · replace H := x_ifp c4 H
    cases H
    exact x_vret 7 dX5_readSetting_7 rfl (Nat.le_of_ble_eq_true rfl) (Nat.le_of_ble_eq_true rfl) ⟨rfl, rfl⟩

def f_X5_readSetting (v0 : Nat) (v1 : Int32) (M : XM) : Option XM :=
  x_bd (f_X8_isSetting v1 M) (f_X5_readSetting_c1 v0 v1)
set_option maxRecDepth 20000 in
set_option maxHeartbeats 4000000 in
theorem t_X5_readSetting (l : Launch) {v0 : Nat} {v1 : Int32} {M : XM} {q : XM} (H : f_X5_readSetting v0 v1 M = some q) : AW l m_X5_readSetting 3 0 0 (x_Rv q) 0 0 0 [some (.ref v0), some (.int v1), none] [] M := by
  unfold f_X5_readSetting at H
  refine x_iload_n 0 1 dX5_readSetting_0 rfl rfl ?_
  obtain ⟨r2, M1, e3, H⟩ := x_bd_of H
  refine x_callSN 1 106 [(.int v1)] [] dX5_readSetting_1 (ct_X8_isSetting l e3) (List.mem_of_getElem? (i := 10) rfl) lk_546 lk_85 lk_547 ⟨cn_X8_isSetting, (by decide), by decide⟩ rfl (Nat.le_of_ble_eq_true rfl) (Nat.le_of_ble_eq_true rfl) (Nat.le_of_ble_eq_true rfl) (x_ri ?_)
  exact t_X5_readSetting_c1 l H

theorem ct_X5_readSetting (l : Launch) {v0 : Nat} {v1 : Int32} {M : XM} {q : XM} (H : f_X5_readSetting v0 v1 M = some q) : Ct l m_X5_readSetting 3 0 0 [(.ref v0), (.int v1)] M (x_Rv q) := x_met l m_X5_readSetting 3 0 0 [(.ref v0), (.int v1)] M (x_Rv q) _ rfl rfl (Nat.le_of_ble_eq_true rfl) (t_X5_readSetting l H)
theorem lk_717 : Cond.code yX5_readSetting cX5_readSetting 3 none ∈ x_TB := x_tb (k := 717) (by decide +kernel) rfl
theorem lk_714 : Cond.methodLink RX5 73 yX5_readSetting ∈ x_TB := x_tb (k := 714) (by decide +kernel) rfl
theorem lk_14 : Cond.selects RX5 yX5_readSetting yX5_readSetting ∈ x_TB := x_tb (k := 14) (by decide +kernel) rfl
theorem lk_716 : Cond.instanceMethod yX5_readSetting ∈ x_TB := x_tb (k := 716) (by decide +kernel) rfl
abbrev m_X5_readItem : XU := (yX5_readItem, cX5_readItem, 3, none)
theorem cn_X5_readItem : m_X5_readItem.1.cls ≠ "java/lang/invoke/MethodHandle" ∧ m_X5_readItem.1.cls ≠ "java/lang/invoke/VarHandle" ∧ (parseMethodDescriptor m_X5_readItem.1.desc).map (fun q => q.parameters.length) = some 0 := by decide +kernel
def f_X5_readItem_c45 (v0 : Nat) (v2 : Int32) (M : XM) : Option XM :=
  if v2 = (5 : Int32) then (if x_tag M v0 = 5 + 10 then (x_bv (f_X5_readCounter v0 M) (fun M22 => some M22)) else none) else (if v2 = (4 : Int32) then (if x_tag M v0 = 5 + 10 then (x_bv (f_X5_readTally v0 M) (fun M27 => some M27)) else none) else (if v2 = (6 : Int32) then (if x_tag M v0 = 5 + 10 then (x_bv (f_X5_readAsk v0 M) (fun M32 => some M32)) else none) else (if x_tag M v0 = 5 + 10 then (x_bv (f_X5_readSetting v0 v2 M) (fun M36 => some M36)) else none)))
set_option maxRecDepth 20000 in
set_option maxHeartbeats 4000000 in
theorem t_X5_readItem_c45 (l : Launch) {v0 : Nat} {v2 : Int32} {M : XM} {q : XM} (H : f_X5_readItem_c45 v0 v2 M = some q) : AW l m_X5_readItem 7 0 0 (x_Rv q) 0 0 48 [some (.ref v0), none, some (.int v2)] [] M := by
  unfold f_X5_readItem_c45 at H
  refine x_iload_n 48 2 dX5_readItem_48 rfl rfl ?_
  refine x_iconst 49 (5 : Int32) dX5_readItem_49 (by decide) ?_
  refine x_icmp_ne 50 60 dX5_readItem_50 (by decide) (fun c20 => ?_) (fun c20 => ?_)
  · replace H := x_ifn c20 H
    refine x_iload_n 60 2 dX5_readItem_60 rfl rfl ?_
    refine x_iconst 61 (4 : Int32) dX5_readItem_61 (by decide) ?_
    refine x_icmp_ne 62 72 dX5_readItem_62 (by decide) (fun c25 => ?_) (fun c25 => ?_)
    · replace H := x_ifn c25 H
      refine x_iload_n 72 2 dX5_readItem_72 rfl rfl ?_
      refine x_bipush 73 (6 : Int32) dX5_readItem_73 (by decide) ?_
      refine x_icmp_ne 75 85 dX5_readItem_75 (by decide) (fun c30 => ?_) (fun c30 => ?_)
      · replace H := x_ifn c30 H
        refine x_aload_n 85 0 dX5_readItem_85 rfl rfl ?_
        refine x_iload_n 86 2 dX5_readItem_86 rfl rfl ?_
        obtain ⟨h35, H⟩ := x_ckp H
        obtain ⟨M36, e38, H⟩ := x_bv_of H
        refine x_callV 87 73 5 [(.int v2)] [] dX5_readItem_87 (ct_X5_readSetting l e38) lk_714 lk_716 lk_14 (by decide) h35 lk_88 lk_717 ⟨cn_X5_readSetting, (by decide), by decide⟩ rfl (Nat.le_of_ble_eq_true rfl) (Nat.le_of_ble_eq_true rfl) (Nat.le_of_ble_eq_true rfl) (x_rv ?_)
        cases H
        exact x_vret 90 dX5_readItem_90 rfl (Nat.le_of_ble_eq_true rfl) (Nat.le_of_ble_eq_true rfl) ⟨rfl, rfl⟩
      · replace H := x_ifp c30 H
        refine x_aload_n 78 0 dX5_readItem_78 rfl rfl ?_
        obtain ⟨h31, H⟩ := x_ckp H
        obtain ⟨M32, e34, H⟩ := x_bv_of H
        refine x_callV 79 70 5 [] [] dX5_readItem_79 (ct_X5_readAsk l e34) lk_693 lk_695 lk_13 (by decide) h31 lk_88 lk_696 ⟨cn_X5_readAsk, (by decide), by decide⟩ rfl (Nat.le_of_ble_eq_true rfl) (Nat.le_of_ble_eq_true rfl) (Nat.le_of_ble_eq_true rfl) (x_rv ?_)
        refine x_goto 82 90 dX5_readItem_82 (by decide) ?_
        cases H
        exact x_vret 90 dX5_readItem_90 rfl (Nat.le_of_ble_eq_true rfl) (Nat.le_of_ble_eq_true rfl) ⟨rfl, rfl⟩
    · replace H := x_ifp c25 H
      refine x_aload_n 65 0 dX5_readItem_65 rfl rfl ?_
      obtain ⟨h26, H⟩ := x_ckp H
      obtain ⟨M27, e29, H⟩ := x_bv_of H
      refine x_callV 66 67 5 [] [] dX5_readItem_66 (ct_X5_readTally l e29) lk_685 lk_687 lk_12 (by decide) h26 lk_88 lk_688 ⟨cn_X5_readTally, (by decide), by decide⟩ rfl (Nat.le_of_ble_eq_true rfl) (Nat.le_of_ble_eq_true rfl) (Nat.le_of_ble_eq_true rfl) (x_rv ?_)
      refine x_goto 69 90 dX5_readItem_69 (by decide) ?_
      cases H
      exact x_vret 90 dX5_readItem_90 rfl (Nat.le_of_ble_eq_true rfl) (Nat.le_of_ble_eq_true rfl) ⟨rfl, rfl⟩
  · replace H := x_ifp c20 H
    refine x_aload_n 53 0 dX5_readItem_53 rfl rfl ?_
    obtain ⟨h21, H⟩ := x_ckp H
    obtain ⟨M22, e24, H⟩ := x_bv_of H
    refine x_callV 54 64 5 [] [] dX5_readItem_54 (ct_X5_readCounter l e24) lk_675 lk_677 lk_10 (by decide) h21 lk_88 lk_678 ⟨cn_X5_readCounter, (by decide), by decide⟩ rfl (Nat.le_of_ble_eq_true rfl) (Nat.le_of_ble_eq_true rfl) (Nat.le_of_ble_eq_true rfl) (x_rv ?_)
    refine x_goto 57 90 dX5_readItem_57 (by decide) ?_
    cases H
    exact x_vret 90 dX5_readItem_90 rfl (Nat.le_of_ble_eq_true rfl) (Nat.le_of_ble_eq_true rfl) ⟨rfl, rfl⟩

def f_X5_readItem_c30 (v0 : Nat) (v1 : Int32) (v2 : Int32) (s0 : Int32) (M : XM) : Option XM :=
  if s0 = 0 then (if x_tag M v0 = 5 + 10 then (x_lt (x_wi M v0 0 v1) (fun M13 => some M13)) else none) else (if x_tag M v0 = 5 + 10 then (x_bv (f_X5_expect v0 (32 : Int32) M) (f_X5_readItem_c45 v0 v2)) else none)
set_option maxRecDepth 20000 in
set_option maxHeartbeats 4000000 in
theorem t_X5_readItem_c30 (l : Launch) {v0 : Nat} {v1 : Int32} {v2 : Int32} {s0 : Int32} {M : XM} {q : XM} (H : f_X5_readItem_c30 v0 v1 v2 s0 M = some q) : AW l m_X5_readItem 7 0 0 (x_Rv q) 0 0 33 [some (.ref v0), some (.int v1), some (.int v2)] [(.int s0)] M := by
  unfold f_X5_readItem_c30 at H
  refine x_if_ne 33 42 dX5_readItem_33 (by decide) (fun c11 => ?_) (fun c11 => ?_)
  · replace H := x_ifn c11 H
    refine x_aload_n 42 0 dX5_readItem_42 rfl rfl ?_
    refine x_bipush 43 (32 : Int32) dX5_readItem_43 (by decide) ?_
    obtain ⟨h16, H⟩ := x_ckp H
    obtain ⟨M17, e19, H⟩ := x_bv_of H
    refine x_callV 45 52 5 [(.int (32 : Int32))] [] dX5_readItem_45 (ct_X5_expect l e19) lk_671 lk_673 lk_9 (by decide) h16 lk_88 lk_674 ⟨cn_X5_expect, (by decide), by decide⟩ rfl (Nat.le_of_ble_eq_true rfl) (Nat.le_of_ble_eq_true rfl) (Nat.le_of_ble_eq_true rfl) (x_rv ?_)
    exact x_wk (le_s (le_n (le_s le_0))) (t_X5_readItem_c45 l H)
  · replace H := x_ifp c11 H
    refine x_aload_n 36 0 dX5_readItem_36 rfl rfl ?_
    refine x_iload_n 37 1 dX5_readItem_37 rfl rfl ?_
    obtain ⟨h12, H⟩ := x_ckp H
    obtain ⟨M13, w14, H⟩ := x_lt_of H
    have h15 : x_tag M13 v0 = 5 + 10 := by rw [w14]; exact h12
    refine x_putI' 38 9 5 0 dX5_readItem_38 lk_214 (by decide) (by decide) rfl (Or.inl rfl) (Or.inl rfl) h12 w14 ?_
    cases H
    exact x_vret 41 dX5_readItem_41 rfl (Nat.le_of_ble_eq_true rfl) (Nat.le_of_ble_eq_true rfl) ⟨rfl, rfl⟩

def f_X5_readItem_c15 (v0 : Nat) (v1 : Int32) (s0 : Int32) (M : XM) : Option XM :=
  if x_tag M v0 = 5 + 10 then (if (x_i M v0 0) = (-1 : Int32) then (x_bd (f_X5_hasRoomFor v0 s0 M) (f_X5_readItem_c30 v0 v1 s0)) else (some M)) else none
set_option maxRecDepth 20000 in
set_option maxHeartbeats 4000000 in
theorem t_X5_readItem_c15 (l : Launch) {v0 : Nat} {v1 : Int32} {s0 : Int32} {M : XM} {q : XM} (H : f_X5_readItem_c15 v0 v1 s0 M = some q) : AW l m_X5_readItem 7 0 0 (x_Rv q) 0 0 18 [some (.ref v0), some (.int v1), none] [(.int s0)] M := by
  unfold f_X5_readItem_c15 at H
  refine x_istore_n 18 2 [some (.ref v0), some (.int v1), some (.int s0)] dX5_readItem_18 rfl rfl (Nat.le_of_ble_eq_true rfl) rfl ?_
  refine x_aload_n 19 0 dX5_readItem_19 rfl rfl ?_
  obtain ⟨h6, H⟩ := x_ckp H
  refine x_getf 20 9 5 0 (.int (x_i M v0 0)) dX5_readItem_20 lk_214 (by decide) (by decide) rfl (fun _ => rfl) h6 ?_
  refine x_iconst 23 (-1 : Int32) dX5_readItem_23 (by decide) ?_
  refine x_icmp_eq 24 28 dX5_readItem_24 (by decide) (fun c7 => ?_) (fun c7 => ?_)
  · replace H := x_ifp c7 H
    refine x_aload_n 28 0 dX5_readItem_28 rfl rfl ?_
    refine x_iload_n 29 2 dX5_readItem_29 rfl rfl ?_
    obtain ⟨r9, M8, e10, H⟩ := x_bd_of H
    refine x_callV 30 60 5 [(.int s0)] [] dX5_readItem_30 (ct_X5_hasRoomFor l e10) lk_662 lk_664 lk_8 (by decide) h6 lk_88 lk_665 ⟨cn_X5_hasRoomFor, (by decide), by decide⟩ rfl (Nat.le_of_ble_eq_true rfl) (Nat.le_of_ble_eq_true rfl) (Nat.le_of_ble_eq_true rfl) (x_ri ?_)
    exact t_X5_readItem_c30 l H
  · replace H := x_ifn c7 H
    cases H
    exact x_vret 27 dX5_readItem_27 rfl (Nat.le_of_ble_eq_true rfl) (Nat.le_of_ble_eq_true rfl) ⟨rfl, rfl⟩

def f_X5_readItem (v0 : Nat) (M : XM) : Option XM :=
  if x_tag M v0 = 5 + 10 then (if (x_i M v0 0) = (-1 : Int32) then (x_bd (f_X5_readWord v0 M) (f_X5_readItem_c15 v0 (x_i M v0 4))) else (some M)) else none
set_option maxRecDepth 20000 in
set_option maxHeartbeats 4000000 in
theorem t_X5_readItem (l : Launch) {v0 : Nat} {M : XM} {q : XM} (H : f_X5_readItem v0 M = some q) : AW l m_X5_readItem 7 0 0 (x_Rv q) 0 0 0 [some (.ref v0), none, none] [] M := by
  unfold f_X5_readItem at H
  refine x_aload_n 0 0 dX5_readItem_0 rfl rfl ?_
  obtain ⟨h1, H⟩ := x_ckp H
  refine x_getf 1 9 5 0 (.int (x_i M v0 0)) dX5_readItem_1 lk_214 (by decide) (by decide) rfl (fun _ => rfl) h1 ?_
  refine x_iconst 4 (-1 : Int32) dX5_readItem_4 (by decide) ?_
  refine x_icmp_eq 5 9 dX5_readItem_5 (by decide) (fun c2 => ?_) (fun c2 => ?_)
  · replace H := x_ifp c2 H
    refine x_aload_n 9 0 dX5_readItem_9 rfl rfl ?_
    refine x_getf 10 46 5 4 (.int (x_i M v0 4)) dX5_readItem_10 lk_220 (by decide) (by decide) rfl (fun _ => rfl) h1 ?_
    refine x_istore_n 13 1 [some (.ref v0), some (.int (x_i M v0 4)), none] dX5_readItem_13 rfl rfl (Nat.le_of_ble_eq_true rfl) rfl ?_
    refine x_aload_n 14 0 dX5_readItem_14 rfl rfl ?_
    obtain ⟨r4, M3, e5, H⟩ := x_bd_of H
    refine x_callV 15 56 5 [] [] dX5_readItem_15 (ct_X5_readWord l e5) lk_593 lk_595 lk_6 (by decide) h1 lk_88 lk_596 ⟨cn_X5_readWord, (by decide), by decide⟩ rfl (Nat.le_of_ble_eq_true rfl) (Nat.le_of_ble_eq_true rfl) (Nat.le_of_ble_eq_true rfl) (x_ri ?_)
    exact t_X5_readItem_c15 l H
  · replace H := x_ifn c2 H
    cases H
    exact x_vret 8 dX5_readItem_8 rfl (Nat.le_of_ble_eq_true rfl) (Nat.le_of_ble_eq_true rfl) ⟨rfl, rfl⟩

theorem ct_X5_readItem (l : Launch) {v0 : Nat} {M : XM} {q : XM} (H : f_X5_readItem v0 M = some q) : Ct l m_X5_readItem 7 0 0 [(.ref v0)] M (x_Rv q) := x_met l m_X5_readItem 7 0 0 [(.ref v0)] M (x_Rv q) _ rfl rfl (Nat.le_of_ble_eq_true rfl) (t_X5_readItem l H)
theorem lk_592 : Cond.code yX5_readItem cX5_readItem 3 none ∈ x_TB := x_tb (k := 592) (by decide +kernel) rfl
theorem lk_589 : Cond.methodLink RX5 49 yX5_readItem ∈ x_TB := x_tb (k := 589) (by decide +kernel) rfl
theorem lk_5 : Cond.selects RX5 yX5_readItem yX5_readItem ∈ x_TB := x_tb (k := 5) (by decide +kernel) rfl
theorem lk_591 : Cond.instanceMethod yX5_readItem ∈ x_TB := x_tb (k := 591) (by decide +kernel) rfl
theorem lk_347 : Cond.fieldLink RX6 26 RX6 "length" "I" ∈ x_TB := x_tb (k := 347) (by decide +kernel) rfl
abbrev m_X6_hasElement : XU := (yX6_hasElement, cX6_hasElement, 2, (some .boolean))
theorem cn_X6_hasElement : m_X6_hasElement.1.cls ≠ "java/lang/invoke/MethodHandle" ∧ m_X6_hasElement.1.cls ≠ "java/lang/invoke/VarHandle" ∧ (parseMethodDescriptor m_X6_hasElement.1.desc).map (fun q => q.parameters.length) = some 1 := by decide +kernel
def f_X6_hasElement (v0 : Nat) (v1 : Int32) (M : XM) : Option (Int32 × XM) :=
  if v1 < 0 then (some ((0 : Int32), M)) else (if x_tag M v0 = 6 + 10 then (if (x_i M v0 2) ≤ v1 then (some ((0 : Int32), M)) else (some ((1 : Int32), M))) else none)
set_option maxRecDepth 20000 in
set_option maxHeartbeats 4000000 in
theorem t_X6_hasElement (l : Launch) {v0 : Nat} {v1 : Int32} {M : XM} {q : Int32 × XM} (H : f_X6_hasElement v0 v1 M = some q) : AW l m_X6_hasElement 1 0 0 (x_Ri q) 0 0 0 [some (.ref v0), some (.int v1)] [] M := by
  unfold f_X6_hasElement at H
  refine x_iload_n 0 1 dX6_hasElement_0 rfl rfl ?_
  refine x_if_lt 1 16 dX6_hasElement_1 (by decide) (fun c1 => ?_) (fun c1 => ?_)
  · replace H := x_ifp c1 H
    refine x_iconst 16 (0 : Int32) dX6_hasElement_16 (by decide) ?_
    cases H
    exact x_iret 17 dX6_hasElement_17 .boolean rfl rfl (Nat.le_of_ble_eq_true rfl) (Nat.le_of_ble_eq_true rfl) ⟨rfl, rfl⟩
  · replace H := x_ifn c1 H
    refine x_iload_n 4 1 dX6_hasElement_4 rfl rfl ?_
    refine x_aload_n 5 0 dX6_hasElement_5 rfl rfl ?_
    obtain ⟨h2, H⟩ := x_ckp H
    refine x_getf 6 26 6 2 (.int (x_i M v0 2)) dX6_hasElement_6 lk_347 (by decide) (by decide) rfl (fun _ => rfl) h2 ?_
    refine x_icmp_ge 9 16 dX6_hasElement_9 (by decide) (fun c3 => ?_) (fun c3 => ?_)
    · replace H := x_ifp c3 H
      refine x_iconst 16 (0 : Int32) dX6_hasElement_16 (by decide) ?_
      cases H
      exact x_iret 17 dX6_hasElement_17 .boolean rfl rfl (Nat.le_of_ble_eq_true rfl) (Nat.le_of_ble_eq_true rfl) ⟨rfl, rfl⟩
    · replace H := x_ifn c3 H
      refine x_iconst 12 (1 : Int32) dX6_hasElement_12 (by decide) ?_
      refine x_goto 13 17 dX6_hasElement_13 (by decide) ?_
      cases H
      exact x_iret 17 dX6_hasElement_17 .boolean rfl rfl (Nat.le_of_ble_eq_true rfl) (Nat.le_of_ble_eq_true rfl) ⟨rfl, rfl⟩

theorem ct_X6_hasElement (l : Launch) {v0 : Nat} {v1 : Int32} {M : XM} {q : Int32 × XM} (H : f_X6_hasElement v0 v1 M = some q) : Ct l m_X6_hasElement 1 0 0 [(.ref v0), (.int v1)] M (x_Ri q) := x_met l m_X6_hasElement 1 0 0 [(.ref v0), (.int v1)] M (x_Ri q) _ rfl rfl (Nat.le_of_ble_eq_true rfl) (t_X6_hasElement l H)
theorem lk_93 : Cond.initialized RX6 ∈ x_TB := x_tb (k := 93) (by decide +kernel) rfl
theorem lk_444 : Cond.code yX6_hasElement cX6_hasElement 2 (some .boolean) ∈ x_TB := x_tb (k := 444) (by decide +kernel) rfl
theorem lk_449 : Cond.methodLink RX6 35 yX6_hasElement ∈ x_TB := x_tb (k := 449) (by decide +kernel) rfl
theorem lk_443 : Cond.selects RX6 yX6_hasElement yX6_hasElement ∈ x_TB := x_tb (k := 443) (by decide +kernel) rfl
theorem lk_442 : Cond.instanceMethod yX6_hasElement ∈ x_TB := x_tb (k := 442) (by decide +kernel) rfl
theorem lk_349 : Cond.fieldLink RX6 18 RX6 "elements" "[J" ∈ x_TB := x_tb (k := 349) (by decide +kernel) rfl
abbrev m_X6_elementAt : XU := (yX6_elementAt, cX6_elementAt, 2, (some .long))
theorem cn_X6_elementAt : m_X6_elementAt.1.cls ≠ "java/lang/invoke/MethodHandle" ∧ m_X6_elementAt.1.cls ≠ "java/lang/invoke/VarHandle" ∧ (parseMethodDescriptor m_X6_elementAt.1.desc).map (fun q => q.parameters.length) = some 1 := by decide +kernel
def f_X6_elementAt_c2 (v0 : Nat) (v1 : Int32) (s0 : Int32) (M : XM) : Option (Int64 × XM) :=
  if s0 = 0 then (some ((0 : Int64), M)) else (if x_tag M v0 = 6 + 10 then (if x_at M (x_r M v0 3) 2 v1 = true then (some ((x_j M (x_r M v0 3) v1.toNatClampNeg), M)) else none) else none)
set_option maxRecDepth 20000 in
set_option maxHeartbeats 4000000 in
theorem t_X6_elementAt_c2 (l : Launch) {v0 : Nat} {v1 : Int32} {s0 : Int32} {M : XM} {q : Int64 × XM} (H : f_X6_elementAt_c2 v0 v1 s0 M = some q) : AW l m_X6_elementAt 2 0 0 (x_Rl q) 0 0 5 [some (.ref v0), some (.int v1)] [(.int s0)] M := by
  unfold f_X6_elementAt_c2 at H
  refine x_if_eq 5 17 dX6_elementAt_5 (by decide) (fun c5 => ?_) (fun c5 => ?_)
  · replace H := x_ifp c5 H
    refine x_lconst 17 (0 : Int64) dX6_elementAt_17 (by decide) ?_
    cases H
    exact x_lret 18 dX6_elementAt_18 rfl (Nat.le_of_ble_eq_true rfl) (Nat.le_of_ble_eq_true rfl) ⟨rfl, rfl⟩
  · replace H := x_ifn c5 H
    refine x_aload_n 8 0 dX6_elementAt_8 rfl rfl ?_
    obtain ⟨h6, H⟩ := x_ckp H
    refine x_getf 9 18 6 3 (.ref (x_r M v0 3)) dX6_elementAt_9 lk_349 (by decide) (by decide) rfl (fun _ => rfl) h6 ?_
    refine x_iload_n 12 1 dX6_elementAt_12 rfl rfl ?_
    obtain ⟨h7, H⟩ := x_ckp H
    refine x_lald 13 dX6_elementAt_13 h7 ?_
    refine x_goto 14 18 dX6_elementAt_14 (by decide) ?_
    cases H
    exact x_lret 18 dX6_elementAt_18 rfl (Nat.le_of_ble_eq_true rfl) (Nat.le_of_ble_eq_true rfl) ⟨rfl, rfl⟩

def f_X6_elementAt (v0 : Nat) (v1 : Int32) (M : XM) : Option (Int64 × XM) :=
  if x_tag M v0 = 6 + 10 then (x_bd (f_X6_hasElement v0 v1 M) (f_X6_elementAt_c2 v0 v1)) else none
set_option maxRecDepth 20000 in
set_option maxHeartbeats 4000000 in
theorem t_X6_elementAt (l : Launch) {v0 : Nat} {v1 : Int32} {M : XM} {q : Int64 × XM} (H : f_X6_elementAt v0 v1 M = some q) : AW l m_X6_elementAt 2 0 0 (x_Rl q) 0 0 0 [some (.ref v0), some (.int v1)] [] M := by
  unfold f_X6_elementAt at H
  refine x_aload_n 0 0 dX6_elementAt_0 rfl rfl ?_
  refine x_iload_n 1 1 dX6_elementAt_1 rfl rfl ?_
  obtain ⟨h1, H⟩ := x_ckp H
  obtain ⟨r3, M2, e4, H⟩ := x_bd_of H
  refine x_callV 2 35 6 [(.int v1)] [] dX6_elementAt_2 (ct_X6_hasElement l e4) lk_449 lk_442 lk_443 (by decide) h1 lk_93 lk_444 ⟨cn_X6_hasElement, (by decide), by decide⟩ rfl (Nat.le_of_ble_eq_true rfl) (Nat.le_of_ble_eq_true rfl) (Nat.le_of_ble_eq_true rfl) (x_ri ?_)
  exact t_X6_elementAt_c2 l H

theorem ct_X6_elementAt (l : Launch) {v0 : Nat} {v1 : Int32} {M : XM} {q : Int64 × XM} (H : f_X6_elementAt v0 v1 M = some q) : Ct l m_X6_elementAt 2 0 0 [(.ref v0), (.int v1)] M (x_Rl q) := x_met l m_X6_elementAt 2 0 0 [(.ref v0), (.int v1)] M (x_Rl q) _ rfl rfl (Nat.le_of_ble_eq_true rfl) (t_X6_elementAt l H)
theorem lk_473 : Cond.code yX6_elementAt cX6_elementAt 2 (some .long) ∈ x_TB := x_tb (k := 473) (by decide +kernel) rfl
theorem lk_588 : Cond.methodLink RX6 39 yX6_elementAt ∈ x_TB := x_tb (k := 588) (by decide +kernel) rfl
theorem lk_472 : Cond.selects RX6 yX6_elementAt yX6_elementAt ∈ x_TB := x_tb (k := 472) (by decide +kernel) rfl
theorem lk_471 : Cond.instanceMethod yX6_elementAt ∈ x_TB := x_tb (k := 471) (by decide +kernel) rfl
abbrev m_X6_intAt : XU := (yX6_intAt, cX6_intAt, 2, (some .int))
theorem cn_X6_intAt : m_X6_intAt.1.cls ≠ "java/lang/invoke/MethodHandle" ∧ m_X6_intAt.1.cls ≠ "java/lang/invoke/VarHandle" ∧ (parseMethodDescriptor m_X6_intAt.1.desc).map (fun q => q.parameters.length) = some 1 := by decide +kernel
def f_X6_intAt_c2 (s0 : Int64) (M : XM) : Option (Int32 × XM) :=
  some ((s0.toInt32), M)
set_option maxRecDepth 20000 in
set_option maxHeartbeats 4000000 in
theorem t_X6_intAt_c2 (l : Launch) {s0 : Int64} {M : XM} {q : Int32 × XM} (H : f_X6_intAt_c2 s0 M = some q) : AW l m_X6_intAt 3 0 0 (x_Ri q) 0 0 5 [none, none] [(.long s0)] M := by
  unfold f_X6_intAt_c2 at H
  refine x_l2i 5 dX6_intAt_5 ?_
  cases H
  exact x_iret 6 dX6_intAt_6 .int rfl rfl (Nat.le_of_ble_eq_true rfl) (Nat.le_of_ble_eq_true rfl) ⟨rfl, rfl⟩

def f_X6_intAt (v0 : Nat) (v1 : Int32) (M : XM) : Option (Int32 × XM) :=
  if x_tag M v0 = 6 + 10 then (x_bd (f_X6_elementAt v0 v1 M) f_X6_intAt_c2) else none
set_option maxRecDepth 20000 in
set_option maxHeartbeats 4000000 in
theorem t_X6_intAt (l : Launch) {v0 : Nat} {v1 : Int32} {M : XM} {q : Int32 × XM} (H : f_X6_intAt v0 v1 M = some q) : AW l m_X6_intAt 3 0 0 (x_Ri q) 0 0 0 [some (.ref v0), some (.int v1)] [] M := by
  unfold f_X6_intAt at H
  refine x_aload_n 0 0 dX6_intAt_0 rfl rfl ?_
  refine x_iload_n 1 1 dX6_intAt_1 rfl rfl ?_
  obtain ⟨h1, H⟩ := x_ckp H
  obtain ⟨r3, M2, e4, H⟩ := x_bd_of H
  refine x_callV 2 39 6 [(.int v1)] [] dX6_intAt_2 (ct_X6_elementAt l e4) lk_588 lk_471 lk_472 (by decide) h1 lk_93 lk_473 ⟨cn_X6_elementAt, (by decide), by decide⟩ rfl (Nat.le_of_ble_eq_true rfl) (Nat.le_of_ble_eq_true rfl) (Nat.le_of_ble_eq_true rfl) (x_rl ?_)
  exact x_wk (le_n (le_n le_0)) (t_X6_intAt_c2 l H)

theorem ct_X6_intAt (l : Launch) {v0 : Nat} {v1 : Int32} {M : XM} {q : Int32 × XM} (H : f_X6_intAt v0 v1 M = some q) : Ct l m_X6_intAt 3 0 0 [(.ref v0), (.int v1)] M (x_Ri q) := x_met l m_X6_intAt 3 0 0 [(.ref v0), (.int v1)] M (x_Ri q) _ rfl rfl (Nat.le_of_ble_eq_true rfl) (t_X6_intAt l H)
