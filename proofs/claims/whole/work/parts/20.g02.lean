theorem lk_862 : Cond.code yX3_spread cX3_spread 7 none ∈ x_TB := x_tb (k := 862) (by decide +kernel) rfl
theorem lk_859 : Cond.methodLink RX3 58 yX3_spread ∈ x_TB := x_tb (k := 859) (by decide +kernel) rfl
theorem lk_25 : Cond.selects RX3 yX3_spread yX3_spread ∈ x_TB := x_tb (k := 25) (by decide +kernel) rfl
theorem lk_861 : Cond.instanceMethod yX3_spread ∈ x_TB := x_tb (k := 861) (by decide +kernel) rfl
abbrev m_X3_fewestBreaks : XU := (yX3_fewestBreaks, cX3_fewestBreaks, 7, (some .int))
theorem cn_X3_fewestBreaks : m_X3_fewestBreaks.1.cls ≠ "java/lang/invoke/MethodHandle" ∧ m_X3_fewestBreaks.1.cls ≠ "java/lang/invoke/VarHandle" ∧ (parseMethodDescriptor m_X3_fewestBreaks.1.desc).map (fun q => q.parameters.length) = some 3 := by decide +kernel
def f_X3_fewestBreaks_c102 (κ84 : Nat → Nat → Int32 → XM → Option (Int32 × XM)) (v0 : Nat) (v1 : Nat) (v5 : Int32) (s0 : Int32) (M : XM) : Option (Int32 × XM) :=
  if s0 = 0 then (κ84 v0 v1 (v5 + (1 : Int32)) M) else (some (v5, M))
set_option maxRecDepth 20000 in
set_option maxHeartbeats 4000000 in
theorem t_X3_fewestBreaks_c102 (l : Launch) {κ84 : Nat → Nat → Int32 → XM → Option (Int32 × XM)} {v0 : Nat} {v1 : Nat} {v5 : Int32} {s0 : Int32} {M : XM} {q : Int32 × XM} (hκ84 : ∀ (v0 : Nat) (v1 : Nat) (v5 : Int32) (M : XM), κ84 v0 v1 v5 M = some q → AW l m_X3_fewestBreaks 3 0 0 (x_Ri q) 0 0 84 [some (.ref v0), some (.ref v1), none, none, none, some (.int v5), none] [] M) (H : f_X3_fewestBreaks_c102 κ84 v0 v1 v5 s0 M = some q) : AW l m_X3_fewestBreaks 3 0 0 (x_Ri q) 0 0 105 [some (.ref v0), some (.ref v1), none, none, none, some (.int v5), none] [(.int s0)] M := by
  unfold f_X3_fewestBreaks_c102 at H
  refine x_if_eq 105 111 dX3_fewestBreaks_105 (by decide) (fun c24 => ?_) (fun c24 => ?_)
  · replace H := x_ifp c24 H
    refine x_iinc 111 5 (v5 + (1 : Int32)) [some (.ref v0), some (.ref v1), none, none, none, some (.int (v5 + (1 : Int32))), none] dX3_fewestBreaks_111 rfl (congrArg (fun z : Int32 => v5 + z) (show Int32.ofInt (1) = (1 : Int32) by decide)) rfl (Nat.le_of_ble_eq_true rfl) rfl ?_
    refine x_goto 114 84 dX3_fewestBreaks_114 (by decide) ?_
    exact hκ84 _ _ _ _ H
  · replace H := x_ifn c24 H
    refine x_iload 108 5 dX3_fewestBreaks_108 rfl ?_
    cases H
    exact x_iret 110 dX3_fewestBreaks_110 .int rfl rfl (Nat.le_of_ble_eq_true rfl) (Nat.le_of_ble_eq_true rfl) ⟨rfl, rfl⟩

def bd_X3_fewestBreaks_84 (κ84 : Nat → Nat → Int32 → XM → Option (Int32 × XM)) (v0 : Nat) (v1 : Nat) (v5 : Int32) (M : XM) : Option (Int32 × XM) :=
  if (8 : Int32) < v5 then (some ((-1 : Int32), M)) else (if x_tag M v0 = 3 + 10 then (if x_tag M v1 = 4 + 10 then (if x_at M (x_r M v0 0) 1 (x_i M v1 2) = true then (x_bd (f_X3_hasBit (x_i M (x_r M v0 0) (x_i M v1 2).toNatClampNeg) v5 M) (f_X3_fewestBreaks_c102 κ84 v0 v1 v5)) else none) else none) else none)
set_option maxRecDepth 20000 in
set_option maxHeartbeats 4000000 in
theorem tb_X3_fewestBreaks_84 (l : Launch) {κ84 : Nat → Nat → Int32 → XM → Option (Int32 × XM)} {v0 : Nat} {v1 : Nat} {v5 : Int32} {M : XM} {q : Int32 × XM} (hκ84 : ∀ (v0 : Nat) (v1 : Nat) (v5 : Int32) (M : XM), κ84 v0 v1 v5 M = some q → AW l m_X3_fewestBreaks 3 0 0 (x_Ri q) 0 0 84 [some (.ref v0), some (.ref v1), none, none, none, some (.int v5), none] [] M) (H : bd_X3_fewestBreaks_84 κ84 v0 v1 v5 M = some q) : AW l m_X3_fewestBreaks 3 0 0 (x_Ri q) 0 0 84 [some (.ref v0), some (.ref v1), none, none, none, some (.int v5), none] [] M := by
  unfold bd_X3_fewestBreaks_84 at H
  refine x_iload 84 5 dX3_fewestBreaks_84 rfl ?_
  refine x_bipush 86 (8 : Int32) dX3_fewestBreaks_86 (by decide) ?_
  refine x_icmp_gt 88 117 dX3_fewestBreaks_88 (by decide) (fun c17 => ?_) (fun c17 => ?_)
  · replace H := x_ifp c17 H
    refine x_iconst 117 (-1 : Int32) dX3_fewestBreaks_117 (by decide) ?_
    cases H
    exact x_iret 118 dX3_fewestBreaks_118 .int rfl rfl (Nat.le_of_ble_eq_true rfl) (Nat.le_of_ble_eq_true rfl) ⟨rfl, rfl⟩
  · replace H := x_ifn c17 H
    refine x_aload_n 91 0 dX3_fewestBreaks_91 rfl rfl ?_
    obtain ⟨h18, H⟩ := x_ckp H
    refine x_getf 92 9 3 0 (.ref (x_r M v0 0)) dX3_fewestBreaks_92 lk_305 (by decide) (by decide) rfl (fun _ => rfl) h18 ?_
    refine x_aload_n 95 1 dX3_fewestBreaks_95 rfl rfl ?_
    obtain ⟨h19, H⟩ := x_ckp H
    refine x_getf 96 24 4 2 (.int (x_i M v1 2)) dX3_fewestBreaks_96 lk_164 (by decide) (by decide) rfl (fun _ => rfl) h19 ?_
    obtain ⟨h20, H⟩ := x_ckp H
    refine x_iald 99 dX3_fewestBreaks_99 h20 ?_
    refine x_iload 100 5 dX3_fewestBreaks_100 rfl ?_
    obtain ⟨r22, M21, e23, H⟩ := x_bd_of H
    refine x_callS 102 62 [(.int (x_i M (x_r M v0 0) (x_i M v1 2).toNatClampNeg)), (.int v5)] [] dX3_fewestBreaks_102 (ct_X3_hasBit l e23) lk_863 lk_864 lk_91 lk_865 ⟨cn_X3_hasBit, (by decide), by decide⟩ rfl (Nat.le_of_ble_eq_true rfl) (Nat.le_of_ble_eq_true rfl) (Nat.le_of_ble_eq_true rfl) (x_ri ?_)
    exact t_X3_fewestBreaks_c102 l hκ84 H

def lp_X3_fewestBreaks_84 (n : Nat) : Nat → Nat → Int32 → XM → Option (Int32 × XM) := x_rec (fun _ _ _ _ => none) (bd_X3_fewestBreaks_84) n
theorem t_X3_fewestBreaks_84 (l : Launch) {q : Int32 × XM} : ∀ (n : Nat) (v0 : Nat) (v1 : Nat) (v5 : Int32) (M : XM), lp_X3_fewestBreaks_84 n v0 v1 v5 M = some q → AW l m_X3_fewestBreaks 3 0 0 (x_Ri q) 0 0 84 [some (.ref v0), some (.ref v1), none, none, none, some (.int v5), none] [] M := by
  intro n
  induction n with
  | zero => intro v0 v1 v5 M H; cases H
  | succ n ih => intro v0 v1 v5 M H; exact tb_X3_fewestBreaks_84 l ih H
def f_X3_fewestBreaks_c72 (κ30 : Nat → Nat → Int32 → Nat → Int32 → XM → Option (Int32 × XM)) (v0 : Nat) (v1 : Nat) (v3 : Int32) (v4 : Nat) (v5 : Int32) (M : XM) : Option (Int32 × XM) :=
  κ30 v0 v1 v3 v4 (v5 + (1 : Int32)) M
set_option maxRecDepth 20000 in
set_option maxHeartbeats 4000000 in
theorem t_X3_fewestBreaks_c72 (l : Launch) {κ30 : Nat → Nat → Int32 → Nat → Int32 → XM → Option (Int32 × XM)} {v0 : Nat} {v1 : Nat} {v3 : Int32} {v4 : Nat} {v5 : Int32} {M : XM} {q : Int32 × XM} (hκ30 : ∀ (v0 : Nat) (v1 : Nat) (v3 : Int32) (v4 : Nat) (v5 : Int32) (M : XM), κ30 v0 v1 v3 v4 v5 M = some q → AW l m_X3_fewestBreaks 3 0 0 (x_Ri q) 0 0 30 [some (.ref v0), some (.ref v1), none, some (.int v3), some (.ref v4), some (.int v5), none] [] M) (H : f_X3_fewestBreaks_c72 κ30 v0 v1 v3 v4 v5 M = some q) : AW l m_X3_fewestBreaks 3 0 0 (x_Ri q) 0 0 75 [some (.ref v0), some (.ref v1), none, some (.int v3), some (.ref v4), some (.int v5), none] [] M := by
  unfold f_X3_fewestBreaks_c72 at H
  refine x_iinc 75 5 (v5 + (1 : Int32)) [some (.ref v0), some (.ref v1), none, some (.int v3), some (.ref v4), some (.int (v5 + (1 : Int32))), none] dX3_fewestBreaks_75 rfl (congrArg (fun z : Int32 => v5 + z) (show Int32.ofInt (1) = (1 : Int32) by decide)) rfl (Nat.le_of_ble_eq_true rfl) rfl ?_
  refine x_goto 78 30 dX3_fewestBreaks_78 (by decide) ?_
  exact hκ30 _ _ _ _ _ _ H

def f_X3_fewestBreaks_c62 (κ30 : Nat → Nat → Int32 → Nat → Int32 → XM → Option (Int32 × XM)) (κ47 : Nat → Nat → Int32 → Nat → Int32 → Int32 → XM → Option (Int32 × XM)) (v0 : Nat) (v1 : Nat) (v3 : Int32) (v4 : Nat) (v5 : Int32) (v6 : Int32) (M : XM) : Option (Int32 × XM) :=
  κ47 v0 v1 v3 v4 v5 (v6 + (1 : Int32)) M
set_option maxRecDepth 20000 in
set_option maxHeartbeats 4000000 in
theorem t_X3_fewestBreaks_c62 (l : Launch) {κ30 : Nat → Nat → Int32 → Nat → Int32 → XM → Option (Int32 × XM)} {κ47 : Nat → Nat → Int32 → Nat → Int32 → Int32 → XM → Option (Int32 × XM)} {v0 : Nat} {v1 : Nat} {v3 : Int32} {v4 : Nat} {v5 : Int32} {v6 : Int32} {M : XM} {q : Int32 × XM} (hκ30 : ∀ (v0 : Nat) (v1 : Nat) (v3 : Int32) (v4 : Nat) (v5 : Int32) (M : XM), κ30 v0 v1 v3 v4 v5 M = some q → AW l m_X3_fewestBreaks 3 0 0 (x_Ri q) 0 0 30 [some (.ref v0), some (.ref v1), none, some (.int v3), some (.ref v4), some (.int v5), none] [] M) (hκ47 : ∀ (v0 : Nat) (v1 : Nat) (v3 : Int32) (v4 : Nat) (v5 : Int32) (v6 : Int32) (M : XM), κ47 v0 v1 v3 v4 v5 v6 M = some q → AW l m_X3_fewestBreaks 3 0 0 (x_Ri q) 0 0 47 [some (.ref v0), some (.ref v1), none, some (.int v3), some (.ref v4), some (.int v5), some (.int v6)] [] M) (H : f_X3_fewestBreaks_c62 κ30 κ47 v0 v1 v3 v4 v5 v6 M = some q) : AW l m_X3_fewestBreaks 3 0 0 (x_Ri q) 0 0 65 [some (.ref v0), some (.ref v1), none, some (.int v3), some (.ref v4), some (.int v5), some (.int v6)] [] M := by
  unfold f_X3_fewestBreaks_c62 at H
  refine x_iinc 65 6 (v6 + (1 : Int32)) [some (.ref v0), some (.ref v1), none, some (.int v3), some (.ref v4), some (.int v5), some (.int (v6 + (1 : Int32)))] dX3_fewestBreaks_65 rfl (congrArg (fun z : Int32 => v6 + z) (show Int32.ofInt (1) = (1 : Int32) by decide)) rfl (Nat.le_of_ble_eq_true rfl) rfl ?_
  refine x_goto 68 47 dX3_fewestBreaks_68 (by decide) ?_
  exact hκ47 _ _ _ _ _ _ _ H

def bd_X3_fewestBreaks_47 (κ30 : Nat → Nat → Int32 → Nat → Int32 → XM → Option (Int32 × XM)) (κ47 : Nat → Nat → Int32 → Nat → Int32 → Int32 → XM → Option (Int32 × XM)) (v0 : Nat) (v1 : Nat) (v3 : Int32) (v4 : Nat) (v5 : Int32) (v6 : Int32) (M : XM) : Option (Int32 × XM) :=
  if x_tag M v1 = 4 + 10 then (if (x_i M v1 2) ≤ v6 then (if x_tag M v0 = 3 + 10 then (x_bv (f_X3_swap v0 M) (f_X3_fewestBreaks_c72 κ30 v0 v1 v3 v4 v5)) else none) else (if x_tag M v0 = 3 + 10 then (x_bv (f_X3_spread v0 v1 v4 v6 M) (f_X3_fewestBreaks_c62 κ30 κ47 v0 v1 v3 v4 v5 v6)) else none)) else none
set_option maxRecDepth 20000 in
set_option maxHeartbeats 4000000 in
theorem tb_X3_fewestBreaks_47 (l : Launch) {κ30 : Nat → Nat → Int32 → Nat → Int32 → XM → Option (Int32 × XM)} {κ47 : Nat → Nat → Int32 → Nat → Int32 → Int32 → XM → Option (Int32 × XM)} {v0 : Nat} {v1 : Nat} {v3 : Int32} {v4 : Nat} {v5 : Int32} {v6 : Int32} {M : XM} {q : Int32 × XM} (hκ30 : ∀ (v0 : Nat) (v1 : Nat) (v3 : Int32) (v4 : Nat) (v5 : Int32) (M : XM), κ30 v0 v1 v3 v4 v5 M = some q → AW l m_X3_fewestBreaks 3 0 0 (x_Ri q) 0 0 30 [some (.ref v0), some (.ref v1), none, some (.int v3), some (.ref v4), some (.int v5), none] [] M) (hκ47 : ∀ (v0 : Nat) (v1 : Nat) (v3 : Int32) (v4 : Nat) (v5 : Int32) (v6 : Int32) (M : XM), κ47 v0 v1 v3 v4 v5 v6 M = some q → AW l m_X3_fewestBreaks 3 0 0 (x_Ri q) 0 0 47 [some (.ref v0), some (.ref v1), none, some (.int v3), some (.ref v4), some (.int v5), some (.int v6)] [] M) (H : bd_X3_fewestBreaks_47 κ30 κ47 v0 v1 v3 v4 v5 v6 M = some q) : AW l m_X3_fewestBreaks 3 0 0 (x_Ri q) 0 0 47 [some (.ref v0), some (.ref v1), none, some (.int v3), some (.ref v4), some (.int v5), some (.int v6)] [] M := by
  unfold bd_X3_fewestBreaks_47 at H
  refine x_iload 47 6 dX3_fewestBreaks_47 rfl ?_
  refine x_aload_n 49 1 dX3_fewestBreaks_49 rfl rfl ?_
  obtain ⟨h29, H⟩ := x_ckp H
  refine x_getf 50 24 4 2 (.int (x_i M v1 2)) dX3_fewestBreaks_50 lk_164 (by decide) (by decide) rfl (fun _ => rfl) h29 ?_
  refine x_icmp_ge 53 71 dX3_fewestBreaks_53 (by decide) (fun c30 => ?_) (fun c30 => ?_)
  · replace H := x_ifp c30 H
    refine x_aload_n 71 0 dX3_fewestBreaks_71 rfl rfl ?_
    obtain ⟨h31, H⟩ := x_ckp H
    obtain ⟨M32, e34, H⟩ := x_bv_of H
    refine x_callV 72 46 3 [] [] dX3_fewestBreaks_72 (ct_X3_swap l e34) lk_846 lk_848 lk_24 (by decide) h31 lk_91 lk_849 ⟨cn_X3_swap, (by decide), by decide⟩ rfl (Nat.le_of_ble_eq_true rfl) (Nat.le_of_ble_eq_true rfl) (Nat.le_of_ble_eq_true rfl) (x_rv ?_)
    exact x_wk (le_s (le_s (le_s (le_s (le_s (le_s (le_n le_0))))))) (t_X3_fewestBreaks_c72 l hκ30 H)
  · replace H := x_ifn c30 H
    refine x_aload_n 56 0 dX3_fewestBreaks_56 rfl rfl ?_
    refine x_aload_n 57 1 dX3_fewestBreaks_57 rfl rfl ?_
    refine x_aload 58 4 dX3_fewestBreaks_58 rfl ?_
    refine x_iload 60 6 dX3_fewestBreaks_60 rfl ?_
    obtain ⟨h35, H⟩ := x_ckp H
    obtain ⟨M36, e38, H⟩ := x_bv_of H
    refine x_callV 62 58 3 [(.ref v1), (.ref v4), (.int v6)] [] dX3_fewestBreaks_62 (ct_X3_spread l e38) lk_859 lk_861 lk_25 (by decide) h35 lk_91 lk_862 ⟨cn_X3_spread, (by decide), by decide⟩ rfl (Nat.le_of_ble_eq_true rfl) (Nat.le_of_ble_eq_true rfl) (Nat.le_of_ble_eq_true rfl) (x_rv ?_)
    exact t_X3_fewestBreaks_c62 l hκ30 hκ47 H

def lp_X3_fewestBreaks_47 (κ30 : Nat → Nat → Int32 → Nat → Int32 → XM → Option (Int32 × XM)) (n : Nat) : Nat → Nat → Int32 → Nat → Int32 → Int32 → XM → Option (Int32 × XM) := x_rec (fun _ _ _ _ _ _ _ => none) (bd_X3_fewestBreaks_47 κ30) n
theorem t_X3_fewestBreaks_47 (l : Launch) {κ30 : Nat → Nat → Int32 → Nat → Int32 → XM → Option (Int32 × XM)} {q : Int32 × XM} (hκ30 : ∀ (v0 : Nat) (v1 : Nat) (v3 : Int32) (v4 : Nat) (v5 : Int32) (M : XM), κ30 v0 v1 v3 v4 v5 M = some q → AW l m_X3_fewestBreaks 3 0 0 (x_Ri q) 0 0 30 [some (.ref v0), some (.ref v1), none, some (.int v3), some (.ref v4), some (.int v5), none] [] M) : ∀ (n : Nat) (v0 : Nat) (v1 : Nat) (v3 : Int32) (v4 : Nat) (v5 : Int32) (v6 : Int32) (M : XM), lp_X3_fewestBreaks_47 κ30 n v0 v1 v3 v4 v5 v6 M = some q → AW l m_X3_fewestBreaks 3 0 0 (x_Ri q) 0 0 47 [some (.ref v0), some (.ref v1), none, some (.int v3), some (.ref v4), some (.int v5), some (.int v6)] [] M := by
  intro n
  induction n with
  | zero => intro v0 v1 v3 v4 v5 v6 M H; cases H
  | succ n ih => intro v0 v1 v3 v4 v5 v6 M H; exact tb_X3_fewestBreaks_47 l hκ30 ih H
def f_X3_fewestBreaks_c41 (κ30 : Nat → Nat → Int32 → Nat → Int32 → XM → Option (Int32 × XM)) (v0 : Nat) (v1 : Nat) (v3 : Int32) (v4 : Nat) (v5 : Int32) (M : XM) : Option (Int32 × XM) :=
  lp_X3_fewestBreaks_47 κ30 x_fuel v0 v1 v3 v4 v5 (0 : Int32) M
set_option maxRecDepth 20000 in
set_option maxHeartbeats 4000000 in
theorem t_X3_fewestBreaks_c41 (l : Launch) {κ30 : Nat → Nat → Int32 → Nat → Int32 → XM → Option (Int32 × XM)} {v0 : Nat} {v1 : Nat} {v3 : Int32} {v4 : Nat} {v5 : Int32} {M : XM} {q : Int32 × XM} (hκ30 : ∀ (v0 : Nat) (v1 : Nat) (v3 : Int32) (v4 : Nat) (v5 : Int32) (M : XM), κ30 v0 v1 v3 v4 v5 M = some q → AW l m_X3_fewestBreaks 3 0 0 (x_Ri q) 0 0 30 [some (.ref v0), some (.ref v1), none, some (.int v3), some (.ref v4), some (.int v5), none] [] M) (H : f_X3_fewestBreaks_c41 κ30 v0 v1 v3 v4 v5 M = some q) : AW l m_X3_fewestBreaks 3 0 0 (x_Ri q) 0 0 44 [some (.ref v0), some (.ref v1), none, some (.int v3), some (.ref v4), some (.int v5), none] [] M := by
  unfold f_X3_fewestBreaks_c41 at H
  refine x_iconst 44 (0 : Int32) dX3_fewestBreaks_44 (by decide) ?_
  refine x_istore 45 6 [some (.ref v0), some (.ref v1), none, some (.int v3), some (.ref v4), some (.int v5), some (.int (0 : Int32))] dX3_fewestBreaks_45 rfl (Nat.le_of_ble_eq_true rfl) rfl ?_
  exact t_X3_fewestBreaks_47 l hκ30 _ _ _ _ _ _ _ _ H

def bd_X3_fewestBreaks_30 (κ30 : Nat → Nat → Int32 → Nat → Int32 → XM → Option (Int32 × XM)) (v0 : Nat) (v1 : Nat) (v3 : Int32) (v4 : Nat) (v5 : Int32) (M : XM) : Option (Int32 × XM) :=
  if v3 ≤ v5 then (lp_X3_fewestBreaks_84 x_fuel v0 v1 (0 : Int32) M) else (if x_tag M v0 = 3 + 10 then (x_bv (f_J7_fill_53178 (x_r M v0 1) (0 : Int32) M) (f_X3_fewestBreaks_c41 κ30 v0 v1 v3 v4 v5)) else none)
set_option maxRecDepth 20000 in
set_option maxHeartbeats 4000000 in
theorem tb_X3_fewestBreaks_30 (l : Launch) {κ30 : Nat → Nat → Int32 → Nat → Int32 → XM → Option (Int32 × XM)} {v0 : Nat} {v1 : Nat} {v3 : Int32} {v4 : Nat} {v5 : Int32} {M : XM} {q : Int32 × XM} (hκ30 : ∀ (v0 : Nat) (v1 : Nat) (v3 : Int32) (v4 : Nat) (v5 : Int32) (M : XM), κ30 v0 v1 v3 v4 v5 M = some q → AW l m_X3_fewestBreaks 3 0 0 (x_Ri q) 0 0 30 [some (.ref v0), some (.ref v1), none, some (.int v3), some (.ref v4), some (.int v5), none] [] M) (H : bd_X3_fewestBreaks_30 κ30 v0 v1 v3 v4 v5 M = some q) : AW l m_X3_fewestBreaks 3 0 0 (x_Ri q) 0 0 30 [some (.ref v0), some (.ref v1), none, some (.int v3), some (.ref v4), some (.int v5), none] [] M := by
  unfold bd_X3_fewestBreaks_30 at H
  refine x_iload 30 5 dX3_fewestBreaks_30 rfl ?_
  refine x_iload_n 32 3 dX3_fewestBreaks_32 rfl rfl ?_
  refine x_icmp_ge 33 81 dX3_fewestBreaks_33 (by decide) (fun c16 => ?_) (fun c16 => ?_)
  · replace H := x_ifp c16 H
    refine x_iconst 81 (0 : Int32) dX3_fewestBreaks_81 (by decide) ?_
    refine x_istore 82 5 [some (.ref v0), some (.ref v1), none, some (.int v3), some (.ref v4), some (.int (0 : Int32)), none] dX3_fewestBreaks_82 rfl (Nat.le_of_ble_eq_true rfl) rfl ?_
    exact x_wk (le_s (le_s (le_s (le_n (le_n (le_s (le_s le_0))))))) (t_X3_fewestBreaks_84 l _ _ _ _ _ H)
  · replace H := x_ifn c16 H
    refine x_aload_n 36 0 dX3_fewestBreaks_36 rfl rfl ?_
    obtain ⟨h25, H⟩ := x_ckp H
    refine x_getf 37 15 3 1 (.ref (x_r M v0 1)) dX3_fewestBreaks_37 lk_306 (by decide) (by decide) rfl (fun _ => rfl) h25 ?_
    refine x_iconst 40 (0 : Int32) dX3_fewestBreaks_40 (by decide) ?_
    obtain ⟨M26, e28, H⟩ := x_bv_of H
    refine x_callS 41 52 [(.ref (x_r M v0 1)), (.int (0 : Int32))] [] dX3_fewestBreaks_41 (ct_J7_fill_53178 l e28) lk_858 lk_791 lk_95 lk_792 ⟨cn_J7_fill_53178, (by decide), by decide⟩ rfl (Nat.le_of_ble_eq_true rfl) (Nat.le_of_ble_eq_true rfl) (Nat.le_of_ble_eq_true rfl) (x_rv ?_)
    exact t_X3_fewestBreaks_c41 l hκ30 H

def lp_X3_fewestBreaks_30 (n : Nat) : Nat → Nat → Int32 → Nat → Int32 → XM → Option (Int32 × XM) := x_rec (fun _ _ _ _ _ _ => none) (bd_X3_fewestBreaks_30) n
theorem t_X3_fewestBreaks_30 (l : Launch) {q : Int32 × XM} : ∀ (n : Nat) (v0 : Nat) (v1 : Nat) (v3 : Int32) (v4 : Nat) (v5 : Int32) (M : XM), lp_X3_fewestBreaks_30 n v0 v1 v3 v4 v5 M = some q → AW l m_X3_fewestBreaks 3 0 0 (x_Ri q) 0 0 30 [some (.ref v0), some (.ref v1), none, some (.int v3), some (.ref v4), some (.int v5), none] [] M := by
  intro n
  induction n with
  | zero => intro v0 v1 v3 v4 v5 M H; cases H
  | succ n ih => intro v0 v1 v3 v4 v5 M H; exact tb_X3_fewestBreaks_30 l ih H
def f_X3_fewestBreaks_c13 (v0 : Nat) (v1 : Nat) (v3 : Int32) (v4 : Nat) (M : XM) : Option (Int32 × XM) :=
  if x_tag M v0 = 3 + 10 then (if x_tag M v4 = 2 + 10 then (if x_at M (x_r M v0 0) 1 (x_i M v4 2) = true then (x_lt (x_wi M (x_r M v0 0) (x_i M v4 2).toNatClampNeg (1 : Int32)) (fun M10 => lp_X3_fewestBreaks_30 x_fuel v0 v1 v3 v4 (0 : Int32) M10)) else none) else none) else none
set_option maxRecDepth 20000 in
set_option maxHeartbeats 4000000 in
theorem t_X3_fewestBreaks_c13 (l : Launch) {v0 : Nat} {v1 : Nat} {v3 : Int32} {v4 : Nat} {M : XM} {q : Int32 × XM} (H : f_X3_fewestBreaks_c13 v0 v1 v3 v4 M = some q) : AW l m_X3_fewestBreaks 3 0 0 (x_Ri q) 0 0 16 [some (.ref v0), some (.ref v1), none, some (.int v3), some (.ref v4), none, none] [] M := by
  unfold f_X3_fewestBreaks_c13 at H
  refine x_aload_n 16 0 dX3_fewestBreaks_16 rfl rfl ?_
  obtain ⟨h7, H⟩ := x_ckp H
  refine x_getf 17 9 3 0 (.ref (x_r M v0 0)) dX3_fewestBreaks_17 lk_305 (by decide) (by decide) rfl (fun _ => rfl) h7 ?_
  refine x_aload 20 4 dX3_fewestBreaks_20 rfl ?_
  obtain ⟨h8, H⟩ := x_ckp H
  refine x_getf 22 49 2 2 (.int (x_i M v4 2)) dX3_fewestBreaks_22 lk_130 (by decide) (by decide) rfl (fun _ => rfl) h8 ?_
  refine x_iconst 25 (1 : Int32) dX3_fewestBreaks_25 (by decide) ?_
  obtain ⟨h9, H⟩ := x_ckp H
  obtain ⟨M10, w11, H⟩ := x_lt_of H
  have h12 : x_tag M10 v0 = 3 + 10 := by rw [w11]; exact h7
  have h13 : x_tag M10 v4 = 2 + 10 := by rw [w11]; exact h8
  have h14 : x_at M10 (x_r M v0 0) 1 (x_i M v4 2) = true := by rw [w11]; exact h9
  have h15 : x_tag M10 (x_r M v0 0) = 1 := by rw [w11]; exact (x_at_1 h9)
  refine x_iast' 26 dX3_fewestBreaks_26 h9 w11 ?_
  refine x_iconst 27 (0 : Int32) dX3_fewestBreaks_27 (by decide) ?_
  refine x_istore 28 5 [some (.ref v0), some (.ref v1), none, some (.int v3), some (.ref v4), some (.int (0 : Int32)), none] dX3_fewestBreaks_28 rfl (Nat.le_of_ble_eq_true rfl) rfl ?_
  exact t_X3_fewestBreaks_30 l _ _ _ _ _ _ _ H

def f_X3_fewestBreaks (v0 : Nat) (v1 : Nat) (v2 : Int32) (v3 : Int32) (M : XM) : Option (Int32 × XM) :=
  if x_tag M v1 = 4 + 10 then (if x_at M (x_r M v1 0) 3 v2 = true then (if x_tag M v0 = 3 + 10 then (x_bv (f_J7_fill_53178 (x_r M v0 0) (0 : Int32) M) (f_X3_fewestBreaks_c13 v0 v1 v3 (x_r M (x_r M v1 0) v2.toNatClampNeg))) else none) else none) else none
set_option maxRecDepth 20000 in
set_option maxHeartbeats 4000000 in
theorem t_X3_fewestBreaks (l : Launch) {v0 : Nat} {v1 : Nat} {v2 : Int32} {v3 : Int32} {M : XM} {q : Int32 × XM} (H : f_X3_fewestBreaks v0 v1 v2 v3 M = some q) : AW l m_X3_fewestBreaks 3 0 0 (x_Ri q) 0 0 0 [some (.ref v0), some (.ref v1), some (.int v2), some (.int v3), none, none, none] [] M := by
  unfold f_X3_fewestBreaks at H
  refine x_aload_n 0 1 dX3_fewestBreaks_0 rfl rfl ?_
  obtain ⟨h1, H⟩ := x_ckp H
  refine x_getf 1 18 4 0 (.ref (x_r M v1 0)) dX3_fewestBreaks_1 lk_155 (by decide) (by decide) rfl (fun _ => rfl) h1 ?_
  refine x_iload_n 4 2 dX3_fewestBreaks_4 rfl rfl ?_
  obtain ⟨h2, H⟩ := x_ckp H
  refine x_aald3 5 dX3_fewestBreaks_5 h2 ?_
  refine x_astore 6 4 [some (.ref v0), some (.ref v1), some (.int v2), some (.int v3), some (.ref (x_r M (x_r M v1 0) v2.toNatClampNeg)), none, none] dX3_fewestBreaks_6 rfl (Nat.le_of_ble_eq_true rfl) rfl ?_
  refine x_aload_n 8 0 dX3_fewestBreaks_8 rfl rfl ?_
  obtain ⟨h3, H⟩ := x_ckp H
  refine x_getf 9 9 3 0 (.ref (x_r M v0 0)) dX3_fewestBreaks_9 lk_305 (by decide) (by decide) rfl (fun _ => rfl) h3 ?_
  refine x_iconst 12 (0 : Int32) dX3_fewestBreaks_12 (by decide) ?_
  obtain ⟨M4, e6, H⟩ := x_bv_of H
  refine x_callS 13 52 [(.ref (x_r M v0 0)), (.int (0 : Int32))] [] dX3_fewestBreaks_13 (ct_J7_fill_53178 l e6) lk_858 lk_791 lk_95 lk_792 ⟨cn_J7_fill_53178, (by decide), by decide⟩ rfl (Nat.le_of_ble_eq_true rfl) (Nat.le_of_ble_eq_true rfl) (Nat.le_of_ble_eq_true rfl) (x_rv ?_)
  exact x_wk (le_s (le_s (le_n (le_s (le_s (le_s (le_s le_0))))))) (t_X3_fewestBreaks_c13 l H)

theorem ct_X3_fewestBreaks (l : Launch) {v0 : Nat} {v1 : Nat} {v2 : Int32} {v3 : Int32} {M : XM} {q : Int32 × XM} (H : f_X3_fewestBreaks v0 v1 v2 v3 M = some q) : Ct l m_X3_fewestBreaks 3 0 0 [(.ref v0), (.ref v1), (.int v2), (.int v3)] M (x_Ri q) := x_met l m_X3_fewestBreaks 3 0 0 [(.ref v0), (.ref v1), (.int v2), (.int v3)] M (x_Ri q) _ rfl rfl (Nat.le_of_ble_eq_true rfl) (t_X3_fewestBreaks l H)
theorem lk_115 : Cond.methodLink RX4 3 Lib.objectInit ∈ x_TB := x_tb (k := 115) (by decide +kernel) rfl
theorem lk_116 : Cond.classLink RX4 9 RX2 ∈ x_TB := x_tb (k := 116) (by decide +kernel) rfl
theorem lk_167 : Cond.fieldLink RX4 21 RX4 "apart" "I" ∈ x_TB := x_tb (k := 167) (by decide +kernel) rfl
theorem lk_172 : Cond.fieldLink RX4 24 RX4 "odds" "I" ∈ x_TB := x_tb (k := 172) (by decide +kernel) rfl
theorem lk_175 : Cond.fieldLink RX4 27 RX4 "cost" "I" ∈ x_TB := x_tb (k := 175) (by decide +kernel) rfl
theorem lk_177 : Cond.fieldLink RX4 30 RX4 "numbers" "[I" ∈ x_TB := x_tb (k := 177) (by decide +kernel) rfl
theorem lk_183 : Cond.fieldLink RX4 34 RX4 "seed" "I" ∈ x_TB := x_tb (k := 183) (by decide +kernel) rfl
theorem lk_118 : Cond.instantiable RX2 5 ∈ x_TB := x_tb (k := 118) (by decide +kernel) rfl
theorem lk_121 : Cond.code yX2_init cX2_init 1 none ∈ x_TB := x_tb (k := 121) (by decide +kernel) rfl
theorem lk_120 : Cond.instanceMethod yX2_init ∈ x_TB := x_tb (k := 120) (by decide +kernel) rfl
abbrev m_X4_init : XU := (yX4_init, cX4_init, 2, none)
theorem cn_X4_init : m_X4_init.1.cls ≠ "java/lang/invoke/MethodHandle" ∧ m_X4_init.1.cls ≠ "java/lang/invoke/VarHandle" ∧ (parseMethodDescriptor m_X4_init.1.desc).map (fun q => q.parameters.length) = some 0 := by decide +kernel
set_option maxRecDepth 20000 in
def f_X4_init (v0 : Nat) (M : XM) : Option XM :=
  if x_tag M v0 = 4 + 10 then (x_al M 3 6 (fun a3 M2 => if x_tag M2 v0 = 4 + 10 then (x_lt (x_wr M2 v0 0 a3) (fun M8 => x_lt (x_wi M8 v0 2 (20 : Int32)) (fun M12 => x_lt (x_wi M12 v0 3 (5 : Int32)) (fun M16 => x_lt (x_wi M16 v0 4 (100 : Int32)) (fun M20 => x_lt (x_wi M20 v0 5 (1 : Int32)) (fun M24 => x_al M24 1 8 (fun a29 M28 => if x_tag M28 v0 = 4 + 10 then (x_lt (x_wr M28 v0 6 a29) (fun M34 => x_lt (x_wi M34 v0 9 (1 : Int32)) (fun M38 => if x_tag M38 (x_r M38 v0 0) = 3 then (if (Int32.ofNat (x_len M38 (x_r M38 v0 0))) ≤ (0 : Int32) then (some M38) else (x_al M38 (2 + 10) 0 (fun a45 M44 => x_bv (f_X2_init a45 M44) (fun M49 => if x_at M49 (x_r M38 v0 0) 3 (0 : Int32) = true then (if x_tag M49 a45 = 2 + 10 then (x_lt (x_wr M49 (x_r M38 v0 0) (0 : Int32).toNatClampNeg a45) (fun M54 => if x_tag M54 v0 = 4 + 10 then (if x_tag M54 (x_r M54 v0 0) = 3 then (if (Int32.ofNat (x_len M54 (x_r M54 v0 0))) ≤ ((0 : Int32) + (1 : Int32)) then (some M54) else (x_al M54 (2 + 10) 0 (fun a63 M62 => x_bv (f_X2_init a63 M62) (fun M67 => if x_at M67 (x_r M54 v0 0) 3 ((0 : Int32) + (1 : Int32)) = true then (if x_tag M67 a63 = 2 + 10 then (x_lt (x_wr M67 (x_r M54 v0 0) ((0 : Int32) + (1 : Int32)).toNatClampNeg a63) (fun M72 => if x_tag M72 v0 = 4 + 10 then (if x_tag M72 (x_r M72 v0 0) = 3 then (if (Int32.ofNat (x_len M72 (x_r M72 v0 0))) ≤ (((0 : Int32) + (1 : Int32)) + (1 : Int32)) then (some M72) else (x_al M72 (2 + 10) 0 (fun a81 M80 => x_bv (f_X2_init a81 M80) (fun M85 => if x_at M85 (x_r M72 v0 0) 3 (((0 : Int32) + (1 : Int32)) + (1 : Int32)) = true then (if x_tag M85 a81 = 2 + 10 then (x_lt (x_wr M85 (x_r M72 v0 0) (((0 : Int32) + (1 : Int32)) + (1 : Int32)).toNatClampNeg a81) (fun M90 => if x_tag M90 v0 = 4 + 10 then (if x_tag M90 (x_r M90 v0 0) = 3 then (if (Int32.ofNat (x_len M90 (x_r M90 v0 0))) ≤ ((((0 : Int32) + (1 : Int32)) + (1 : Int32)) + (1 : Int32)) then (some M90) else (x_al M90 (2 + 10) 0 (fun a99 M98 => x_bv (f_X2_init a99 M98) (fun M103 => if x_at M103 (x_r M90 v0 0) 3 ((((0 : Int32) + (1 : Int32)) + (1 : Int32)) + (1 : Int32)) = true then (if x_tag M103 a99 = 2 + 10 then (x_lt (x_wr M103 (x_r M90 v0 0) ((((0 : Int32) + (1 : Int32)) + (1 : Int32)) + (1 : Int32)).toNatClampNeg a99) (fun M108 => if x_tag M108 v0 = 4 + 10 then (if x_tag M108 (x_r M108 v0 0) = 3 then (if (Int32.ofNat (x_len M108 (x_r M108 v0 0))) ≤ (((((0 : Int32) + (1 : Int32)) + (1 : Int32)) + (1 : Int32)) + (1 : Int32)) then (some M108) else (x_al M108 (2 + 10) 0 (fun a117 M116 => x_bv (f_X2_init a117 M116) (fun M121 => if x_at M121 (x_r M108 v0 0) 3 (((((0 : Int32) + (1 : Int32)) + (1 : Int32)) + (1 : Int32)) + (1 : Int32)) = true then (if x_tag M121 a117 = 2 + 10 then (x_lt (x_wr M121 (x_r M108 v0 0) (((((0 : Int32) + (1 : Int32)) + (1 : Int32)) + (1 : Int32)) + (1 : Int32)).toNatClampNeg a117) (fun M126 => if x_tag M126 v0 = 4 + 10 then (if x_tag M126 (x_r M126 v0 0) = 3 then (if (Int32.ofNat (x_len M126 (x_r M126 v0 0))) ≤ ((((((0 : Int32) + (1 : Int32)) + (1 : Int32)) + (1 : Int32)) + (1 : Int32)) + (1 : Int32)) then (some M126) else (x_al M126 (2 + 10) 0 (fun a135 M134 => x_bv (f_X2_init a135 M134) (fun M139 => if x_at M139 (x_r M126 v0 0) 3 ((((((0 : Int32) + (1 : Int32)) + (1 : Int32)) + (1 : Int32)) + (1 : Int32)) + (1 : Int32)) = true then (if x_tag M139 a135 = 2 + 10 then (x_lt (x_wr M139 (x_r M126 v0 0) ((((((0 : Int32) + (1 : Int32)) + (1 : Int32)) + (1 : Int32)) + (1 : Int32)) + (1 : Int32)).toNatClampNeg a135) (fun M144 => if x_tag M144 v0 = 4 + 10 then (if x_tag M144 (x_r M144 v0 0) = 3 then (if (Int32.ofNat (x_len M144 (x_r M144 v0 0))) ≤ (((((((0 : Int32) + (1 : Int32)) + (1 : Int32)) + (1 : Int32)) + (1 : Int32)) + (1 : Int32)) + (1 : Int32)) then (some M144) else (x_al M144 (2 + 10) 0 (fun a153 M152 => x_bv (f_X2_init a153 M152) (fun M157 => if x_at M157 (x_r M144 v0 0) 3 (((((((0 : Int32) + (1 : Int32)) + (1 : Int32)) + (1 : Int32)) + (1 : Int32)) + (1 : Int32)) + (1 : Int32)) = true then (if x_tag M157 a153 = 2 + 10 then (x_lt (x_wr M157 (x_r M144 v0 0) (((((((0 : Int32) + (1 : Int32)) + (1 : Int32)) + (1 : Int32)) + (1 : Int32)) + (1 : Int32)) + (1 : Int32)).toNatClampNeg a153) (fun M162 => none)) else none) else none)))) else none) else none)) else none) else none)))) else none) else none)) else none) else none)))) else none) else none)) else none) else none)))) else none) else none)) else none) else none)))) else none) else none)) else none) else none)))) else none) else none)) else none) else none)))) else none))) else none))))))) else none)) else none
set_option maxRecDepth 20000 in
set_option maxHeartbeats 4000000 in
theorem t_X4_init (l : Launch) {v0 : Nat} {M : XM} {q : XM} (H : f_X4_init v0 M = some q) : AW l m_X4_init 2 9 49 (x_Rv q) 0 0 0 [some (.ref v0), none] [] M := by
  unfold f_X4_init at H
  refine x_aload_n 0 0 dX4_init_0 rfl rfl ?_
  obtain ⟨h1, H⟩ := x_ckp H
  refine x_objInit 1 3 dX4_init_1 lk_115 lk_108 lk_109 h1 rfl (Nat.le_of_ble_eq_true rfl) (by decide) ?_
  refine x_aload_n 4 0 dX4_init_4 rfl rfl ?_
  refine x_bipush 5 (6 : Int32) dX4_init_5 (by decide) ?_
  obtain ⟨a3, M2, w4, w5, H⟩ := x_al_of H
  refine x_anew3' 7 9 6 dX4_init_7 lk_116 (by decide) (by decide) (by decide) (Nat.le_of_ble_eq_true rfl) (Nat.le_of_ble_eq_true rfl) w4 w5 ?_
  have h6 : x_tag M2 a3 = 3 := x_al_tag w4 w5
  change AW _ _ _ _ _ _ 1 6 _ _ _ _
  obtain ⟨h7, H⟩ := x_ckp H
  obtain ⟨M8, w9, H⟩ := x_lt_of H
  have h10 : x_tag M8 a3 = 3 := by rw [w9]; exact h6
  have h11 : x_tag M8 v0 = 4 + 10 := by rw [w9]; exact h7
  refine x_putR' 10 11 4 0 dX4_init_10 lk_154 (by decide) (by decide) rfl (Or.inr ⟨_, rfl⟩) (Or.inr ⟨rfl, rfl⟩) h7 w9 ?_
  refine x_aload_n 13 0 dX4_init_13 rfl rfl ?_
  refine x_bipush 14 (20 : Int32) dX4_init_14 (by decide) ?_
  obtain ⟨M12, w13, H⟩ := x_lt_of H
  have h14 : x_tag M12 a3 = 3 := by rw [w13]; exact h10
  have h15 : x_tag M12 v0 = 4 + 10 := by rw [w13]; exact h11
  refine x_putI' 16 17 4 2 dX4_init_16 lk_162 (by decide) (by decide) rfl (Or.inl rfl) (Or.inl rfl) h11 w13 ?_
  refine x_aload_n 19 0 dX4_init_19 rfl rfl ?_
  refine x_iconst 20 (5 : Int32) dX4_init_20 (by decide) ?_
  obtain ⟨M16, w17, H⟩ := x_lt_of H
  have h18 : x_tag M16 a3 = 3 := by rw [w17]; exact h14
  have h19 : x_tag M16 v0 = 4 + 10 := by rw [w17]; exact h15
  refine x_putI' 21 21 4 3 dX4_init_21 lk_167 (by decide) (by decide) rfl (Or.inl rfl) (Or.inl rfl) h15 w17 ?_
  refine x_aload_n 24 0 dX4_init_24 rfl rfl ?_
  refine x_bipush 25 (100 : Int32) dX4_init_25 (by decide) ?_
  obtain ⟨M20, w21, H⟩ := x_lt_of H
  have h22 : x_tag M20 a3 = 3 := by rw [w21]; exact h18
  have h23 : x_tag M20 v0 = 4 + 10 := by rw [w21]; exact h19
  refine x_putI' 27 24 4 4 dX4_init_27 lk_172 (by decide) (by decide) rfl (Or.inl rfl) (Or.inl rfl) h19 w21 ?_
  refine x_aload_n 30 0 dX4_init_30 rfl rfl ?_
  refine x_iconst 31 (1 : Int32) dX4_init_31 (by decide) ?_
  obtain ⟨M24, w25, H⟩ := x_lt_of H
  have h26 : x_tag M24 a3 = 3 := by rw [w25]; exact h22
  have h27 : x_tag M24 v0 = 4 + 10 := by rw [w25]; exact h23
  refine x_putI' 32 27 4 5 dX4_init_32 lk_175 (by decide) (by decide) rfl (Or.inl rfl) (Or.inl rfl) h23 w25 ?_
  refine x_aload_n 35 0 dX4_init_35 rfl rfl ?_
  refine x_bipush 36 (8 : Int32) dX4_init_36 (by decide) ?_
  obtain ⟨a29, M28, w30, w31, H⟩ := x_al_of H
  refine x_newI' 38 8 dX4_init_38 lk_153 (by decide) (by decide) (by decide) (Nat.le_of_ble_eq_true rfl) (Nat.le_of_ble_eq_true rfl) w30 w31 ?_
  have h32 : x_tag M28 a29 = 1 := x_al_tag w30 w31
  change AW _ _ _ _ _ _ 2 14 _ _ _ _
  obtain ⟨h33, H⟩ := x_ckp H
  obtain ⟨M34, w35, H⟩ := x_lt_of H
  have h36 : x_tag M34 a29 = 1 := by rw [w35]; exact h32
  have h37 : x_tag M34 v0 = 4 + 10 := by rw [w35]; exact h33
  refine x_putR' 40 30 4 6 dX4_init_40 lk_177 (by decide) (by decide) rfl (Or.inr ⟨_, rfl⟩) (Or.inr ⟨rfl, rfl⟩) h33 w35 ?_
  refine x_aload_n 43 0 dX4_init_43 rfl rfl ?_
  refine x_iconst 44 (1 : Int32) dX4_init_44 (by decide) ?_
  obtain ⟨M38, w39, H⟩ := x_lt_of H
  have h40 : x_tag M38 a29 = 1 := by rw [w39]; exact h36
  have h41 : x_tag M38 v0 = 4 + 10 := by rw [w39]; exact h37
  refine x_putI' 45 34 4 9 dX4_init_45 lk_183 (by decide) (by decide) rfl (Or.inl rfl) (Or.inl rfl) h37 w39 ?_
  refine x_iconst 48 (0 : Int32) dX4_init_48 (by decide) ?_
  refine x_istore_n 49 1 [some (.ref v0), some (.int (0 : Int32))] dX4_init_49 rfl rfl (Nat.le_of_ble_eq_true rfl) rfl ?_
  refine x_iload_n 50 1 dX4_init_50 rfl rfl ?_
  refine x_aload_n 51 0 dX4_init_51 rfl rfl ?_
  refine x_getf 52 11 4 0 (.ref (x_r M38 v0 0)) dX4_init_52 lk_154 (by decide) (by decide) rfl (fun _ => rfl) h41 ?_
  obtain ⟨h42, H⟩ := x_ckp H
  refine x_alen 55 3 dX4_init_55 h42 (by decide) ?_
  refine x_icmp_ge 56 78 dX4_init_56 (by decide) (fun c43 => ?_) (fun c43 => ?_)
  · replace H := x_ifp c43 H
    cases H
    exact x_vret 78 dX4_init_78 rfl (Nat.le_of_ble_eq_true rfl) (Nat.le_of_ble_eq_true rfl) ⟨rfl, rfl⟩
  · replace H := x_ifn c43 H
    refine x_aload_n 59 0 dX4_init_59 rfl rfl ?_
    refine x_getf 60 11 4 0 (.ref (x_r M38 v0 0)) dX4_init_60 lk_154 (by decide) (by decide) rfl (fun _ => rfl) h41 ?_
    refine x_iload_n 63 1 dX4_init_63 rfl rfl ?_
    obtain ⟨a45, M44, w46, w47, H⟩ := x_al_of H
    refine x_newc' 64 9 2 dX4_init_64 (by decide) lk_116 lk_118 lk_87 (Nat.le_of_ble_eq_true rfl) (Nat.le_of_ble_eq_true rfl) w46 w47 ?_
    have h48 : x_tag M44 a45 = 2 + 10 := x_al_tag w46 w47
    change AW _ _ _ _ _ _ 3 19 _ _ _ _
    refine x_dup 67 dX4_init_67 rfl ?_
    obtain ⟨M49, e51, H⟩ := x_bv_of H
    refine x_callIN 68 37 [] [(.ref a45), (.int (0 : Int32)), (.ref (x_r M38 v0 0))] dX4_init_68 (ct_X2_init l e51) (List.mem_of_getElem? (i := 0) rfl) rfl rfl lk_120 h48 lk_87 lk_121 ⟨cn_X2_init, (by decide), by decide⟩ rfl (Nat.le_of_ble_eq_true rfl) (Nat.le_of_ble_eq_true rfl) (Nat.le_of_ble_eq_true rfl) (x_rv ?_)
    obtain ⟨h52, H⟩ := x_ckp H
    obtain ⟨h53, H⟩ := x_ckp H
    obtain ⟨M54, w55, H⟩ := x_lt_of H
    have h56 : x_at M54 (x_r M38 v0 0) 3 (0 : Int32) = true := by rw [w55]; exact h52
    have h57 : x_tag M54 (x_r M38 v0 0) = 3 := by rw [w55]; exact (x_at_1 h52)
    have h58 : x_tag M54 a45 = 2 + 10 := by rw [w55]; exact h53
    refine x_aast3' 71 dX4_init_71 h52 h53 w55 ?_
    refine x_iinc 72 1 ((0 : Int32) + (1 : Int32)) [some (.ref v0), some (.int ((0 : Int32) + (1 : Int32)))] dX4_init_72 rfl (congrArg (fun z : Int32 => (0 : Int32) + z) (show Int32.ofInt (1) = (1 : Int32) by decide)) rfl (Nat.le_of_ble_eq_true rfl) rfl ?_
    refine x_goto 75 50 dX4_init_75 (by decide) ?_
    refine x_iload_n 50 1 dX4_init_50 rfl rfl ?_
    refine x_aload_n 51 0 dX4_init_51 rfl rfl ?_
    obtain ⟨h59, H⟩ := x_ckp H
    refine x_getf 52 11 4 0 (.ref (x_r M54 v0 0)) dX4_init_52 lk_154 (by decide) (by decide) rfl (fun _ => rfl) h59 ?_
    obtain ⟨h60, H⟩ := x_ckp H
    refine x_alen 55 3 dX4_init_55 h60 (by decide) ?_
    refine x_icmp_ge 56 78 dX4_init_56 (by decide) (fun c61 => ?_) (fun c61 => ?_)
    · replace H := x_ifp c61 H
      cases H
      exact x_vret 78 dX4_init_78 rfl (Nat.le_of_ble_eq_true rfl) (Nat.le_of_ble_eq_true rfl) ⟨rfl, rfl⟩
    · replace H := x_ifn c61 H
      refine x_aload_n 59 0 dX4_init_59 rfl rfl ?_
      refine x_getf 60 11 4 0 (.ref (x_r M54 v0 0)) dX4_init_60 lk_154 (by decide) (by decide) rfl (fun _ => rfl) h59 ?_
      refine x_iload_n 63 1 dX4_init_63 rfl rfl ?_
      obtain ⟨a63, M62, w64, w65, H⟩ := x_al_of H
      refine x_newc' 64 9 2 dX4_init_64 (by decide) lk_116 lk_118 lk_87 (Nat.le_of_ble_eq_true rfl) (Nat.le_of_ble_eq_true rfl) w64 w65 ?_
      have h66 : x_tag M62 a63 = 2 + 10 := x_al_tag w64 w65
      change AW _ _ _ _ _ _ 4 24 _ _ _ _
      refine x_dup 67 dX4_init_67 rfl ?_
      obtain ⟨M67, e69, H⟩ := x_bv_of H
      refine x_callIN 68 37 [] [(.ref a63), (.int ((0 : Int32) + (1 : Int32))), (.ref (x_r M54 v0 0))] dX4_init_68 (ct_X2_init l e69) (List.mem_of_getElem? (i := 0) rfl) rfl rfl lk_120 h66 lk_87 lk_121 ⟨cn_X2_init, (by decide), by decide⟩ rfl (Nat.le_of_ble_eq_true rfl) (Nat.le_of_ble_eq_true rfl) (Nat.le_of_ble_eq_true rfl) (x_rv ?_)
      obtain ⟨h70, H⟩ := x_ckp H
      obtain ⟨h71, H⟩ := x_ckp H
      obtain ⟨M72, w73, H⟩ := x_lt_of H
      have h74 : x_at M72 (x_r M54 v0 0) 3 ((0 : Int32) + (1 : Int32)) = true := by rw [w73]; exact h70
      have h75 : x_tag M72 (x_r M54 v0 0) = 3 := by rw [w73]; exact (x_at_1 h70)
      have h76 : x_tag M72 a63 = 2 + 10 := by rw [w73]; exact h71
      refine x_aast3' 71 dX4_init_71 h70 h71 w73 ?_
      refine x_iinc 72 1 (((0 : Int32) + (1 : Int32)) + (1 : Int32)) [some (.ref v0), some (.int (((0 : Int32) + (1 : Int32)) + (1 : Int32)))] dX4_init_72 rfl (congrArg (fun z : Int32 => ((0 : Int32) + (1 : Int32)) + z) (show Int32.ofInt (1) = (1 : Int32) by decide)) rfl (Nat.le_of_ble_eq_true rfl) rfl ?_
      refine x_goto 75 50 dX4_init_75 (by decide) ?_
      refine x_iload_n 50 1 dX4_init_50 rfl rfl ?_
      refine x_aload_n 51 0 dX4_init_51 rfl rfl ?_
      obtain ⟨h77, H⟩ := x_ckp H
      refine x_getf 52 11 4 0 (.ref (x_r M72 v0 0)) dX4_init_52 lk_154 (by decide) (by decide) rfl (fun _ => rfl) h77 ?_
      obtain ⟨h78, H⟩ := x_ckp H
      refine x_alen 55 3 dX4_init_55 h78 (by decide) ?_
      refine x_icmp_ge 56 78 dX4_init_56 (by decide) (fun c79 => ?_) (fun c79 => ?_)
      · replace H := x_ifp c79 H
        cases H
        exact x_vret 78 dX4_init_78 rfl (Nat.le_of_ble_eq_true rfl) (Nat.le_of_ble_eq_true rfl) ⟨rfl, rfl⟩
      · replace H := x_ifn c79 H
        refine x_aload_n 59 0 dX4_init_59 rfl rfl ?_
        refine x_getf 60 11 4 0 (.ref (x_r M72 v0 0)) dX4_init_60 lk_154 (by decide) (by decide) rfl (fun _ => rfl) h77 ?_
        refine x_iload_n 63 1 dX4_init_63 rfl rfl ?_
        obtain ⟨a81, M80, w82, w83, H⟩ := x_al_of H
        refine x_newc' 64 9 2 dX4_init_64 (by decide) lk_116 lk_118 lk_87 (Nat.le_of_ble_eq_true rfl) (Nat.le_of_ble_eq_true rfl) w82 w83 ?_
        have h84 : x_tag M80 a81 = 2 + 10 := x_al_tag w82 w83
        change AW _ _ _ _ _ _ 5 29 _ _ _ _
        refine x_dup 67 dX4_init_67 rfl ?_
        obtain ⟨M85, e87, H⟩ := x_bv_of H
        refine x_callIN 68 37 [] [(.ref a81), (.int (((0 : Int32) + (1 : Int32)) + (1 : Int32))), (.ref (x_r M72 v0 0))] dX4_init_68 (ct_X2_init l e87) (List.mem_of_getElem? (i := 0) rfl) rfl rfl lk_120 h84 lk_87 lk_121 ⟨cn_X2_init, (by decide), by decide⟩ rfl (Nat.le_of_ble_eq_true rfl) (Nat.le_of_ble_eq_true rfl) (Nat.le_of_ble_eq_true rfl) (x_rv ?_)
        obtain ⟨h88, H⟩ := x_ckp H
        obtain ⟨h89, H⟩ := x_ckp H
        obtain ⟨M90, w91, H⟩ := x_lt_of H
        have h92 : x_at M90 (x_r M72 v0 0) 3 (((0 : Int32) + (1 : Int32)) + (1 : Int32)) = true := by rw [w91]; exact h88
        have h93 : x_tag M90 (x_r M72 v0 0) = 3 := by rw [w91]; exact (x_at_1 h88)
        have h94 : x_tag M90 a81 = 2 + 10 := by rw [w91]; exact h89
        refine x_aast3' 71 dX4_init_71 h88 h89 w91 ?_
        refine x_iinc 72 1 ((((0 : Int32) + (1 : Int32)) + (1 : Int32)) + (1 : Int32)) [some (.ref v0), some (.int ((((0 : Int32) + (1 : Int32)) + (1 : Int32)) + (1 : Int32)))] dX4_init_72 rfl (congrArg (fun z : Int32 => (((0 : Int32) + (1 : Int32)) + (1 : Int32)) + z) (show Int32.ofInt (1) = (1 : Int32) by decide)) rfl (Nat.le_of_ble_eq_true rfl) rfl ?_
        refine x_goto 75 50 dX4_init_75 (by decide) ?_
        refine x_iload_n 50 1 dX4_init_50 rfl rfl ?_
        refine x_aload_n 51 0 dX4_init_51 rfl rfl ?_
        obtain ⟨h95, H⟩ := x_ckp H
        refine x_getf 52 11 4 0 (.ref (x_r M90 v0 0)) dX4_init_52 lk_154 (by decide) (by decide) rfl (fun _ => rfl) h95 ?_
        obtain ⟨h96, H⟩ := x_ckp H
        refine x_alen 55 3 dX4_init_55 h96 (by decide) ?_
        refine x_icmp_ge 56 78 dX4_init_56 (by decide) (fun c97 => ?_) (fun c97 => ?_)
        · replace H := x_ifp c97 H
          cases H
          exact x_vret 78 dX4_init_78 rfl (Nat.le_of_ble_eq_true rfl) (Nat.le_of_ble_eq_true rfl) ⟨rfl, rfl⟩
        · replace H := x_ifn c97 H
          refine x_aload_n 59 0 dX4_init_59 rfl rfl ?_
          refine x_getf 60 11 4 0 (.ref (x_r M90 v0 0)) dX4_init_60 lk_154 (by decide) (by decide) rfl (fun _ => rfl) h95 ?_
          refine x_iload_n 63 1 dX4_init_63 rfl rfl ?_
          obtain ⟨a99, M98, w100, w101, H⟩ := x_al_of H
          refine x_newc' 64 9 2 dX4_init_64 (by decide) lk_116 lk_118 lk_87 (Nat.le_of_ble_eq_true rfl) (Nat.le_of_ble_eq_true rfl) w100 w101 ?_
          have h102 : x_tag M98 a99 = 2 + 10 := x_al_tag w100 w101
          change AW _ _ _ _ _ _ 6 34 _ _ _ _
          refine x_dup 67 dX4_init_67 rfl ?_
          obtain ⟨M103, e105, H⟩ := x_bv_of H
          refine x_callIN 68 37 [] [(.ref a99), (.int ((((0 : Int32) + (1 : Int32)) + (1 : Int32)) + (1 : Int32))), (.ref (x_r M90 v0 0))] dX4_init_68 (ct_X2_init l e105) (List.mem_of_getElem? (i := 0) rfl) rfl rfl lk_120 h102 lk_87 lk_121 ⟨cn_X2_init, (by decide), by decide⟩ rfl (Nat.le_of_ble_eq_true rfl) (Nat.le_of_ble_eq_true rfl) (Nat.le_of_ble_eq_true rfl) (x_rv ?_)
          obtain ⟨h106, H⟩ := x_ckp H
          obtain ⟨h107, H⟩ := x_ckp H
          obtain ⟨M108, w109, H⟩ := x_lt_of H
          have h110 : x_at M108 (x_r M90 v0 0) 3 ((((0 : Int32) + (1 : Int32)) + (1 : Int32)) + (1 : Int32)) = true := by rw [w109]; exact h106
          have h111 : x_tag M108 (x_r M90 v0 0) = 3 := by rw [w109]; exact (x_at_1 h106)
          have h112 : x_tag M108 a99 = 2 + 10 := by rw [w109]; exact h107
          refine x_aast3' 71 dX4_init_71 h106 h107 w109 ?_
          refine x_iinc 72 1 (((((0 : Int32) + (1 : Int32)) + (1 : Int32)) + (1 : Int32)) + (1 : Int32)) [some (.ref v0), some (.int (((((0 : Int32) + (1 : Int32)) + (1 : Int32)) + (1 : Int32)) + (1 : Int32)))] dX4_init_72 rfl (congrArg (fun z : Int32 => ((((0 : Int32) + (1 : Int32)) + (1 : Int32)) + (1 : Int32)) + z) (show Int32.ofInt (1) = (1 : Int32) by decide)) rfl (Nat.le_of_ble_eq_true rfl) rfl ?_
          refine x_goto 75 50 dX4_init_75 (by decide) ?_
          refine x_iload_n 50 1 dX4_init_50 rfl rfl ?_
          refine x_aload_n 51 0 dX4_init_51 rfl rfl ?_
          obtain ⟨h113, H⟩ := x_ckp H
          refine x_getf 52 11 4 0 (.ref (x_r M108 v0 0)) dX4_init_52 lk_154 (by decide) (by decide) rfl (fun _ => rfl) h113 ?_
          obtain ⟨h114, H⟩ := x_ckp H
          refine x_alen 55 3 dX4_init_55 h114 (by decide) ?_
          refine x_icmp_ge 56 78 dX4_init_56 (by decide) (fun c115 => ?_) (fun c115 => ?_)
          · replace H := x_ifp c115 H
            cases H
            exact x_vret 78 dX4_init_78 rfl (Nat.le_of_ble_eq_true rfl) (Nat.le_of_ble_eq_true rfl) ⟨rfl, rfl⟩
          · replace H := x_ifn c115 H
            refine x_aload_n 59 0 dX4_init_59 rfl rfl ?_
            refine x_getf 60 11 4 0 (.ref (x_r M108 v0 0)) dX4_init_60 lk_154 (by decide) (by decide) rfl (fun _ => rfl) h113 ?_
            refine x_iload_n 63 1 dX4_init_63 rfl rfl ?_
            obtain ⟨a117, M116, w118, w119, H⟩ := x_al_of H
            refine x_newc' 64 9 2 dX4_init_64 (by decide) lk_116 lk_118 lk_87 (Nat.le_of_ble_eq_true rfl) (Nat.le_of_ble_eq_true rfl) w118 w119 ?_
            have h120 : x_tag M116 a117 = 2 + 10 := x_al_tag w118 w119
            change AW _ _ _ _ _ _ 7 39 _ _ _ _
            refine x_dup 67 dX4_init_67 rfl ?_
            obtain ⟨M121, e123, H⟩ := x_bv_of H
            refine x_callIN 68 37 [] [(.ref a117), (.int (((((0 : Int32) + (1 : Int32)) + (1 : Int32)) + (1 : Int32)) + (1 : Int32))), (.ref (x_r M108 v0 0))] dX4_init_68 (ct_X2_init l e123) (List.mem_of_getElem? (i := 0) rfl) rfl rfl lk_120 h120 lk_87 lk_121 ⟨cn_X2_init, (by decide), by decide⟩ rfl (Nat.le_of_ble_eq_true rfl) (Nat.le_of_ble_eq_true rfl) (Nat.le_of_ble_eq_true rfl) (x_rv ?_)
            obtain ⟨h124, H⟩ := x_ckp H
            obtain ⟨h125, H⟩ := x_ckp H
            obtain ⟨M126, w127, H⟩ := x_lt_of H
            have h128 : x_at M126 (x_r M108 v0 0) 3 (((((0 : Int32) + (1 : Int32)) + (1 : Int32)) + (1 : Int32)) + (1 : Int32)) = true := by rw [w127]; exact h124
            have h129 : x_tag M126 (x_r M108 v0 0) = 3 := by rw [w127]; exact (x_at_1 h124)
            have h130 : x_tag M126 a117 = 2 + 10 := by rw [w127]; exact h125
            refine x_aast3' 71 dX4_init_71 h124 h125 w127 ?_
            refine x_iinc 72 1 ((((((0 : Int32) + (1 : Int32)) + (1 : Int32)) + (1 : Int32)) + (1 : Int32)) + (1 : Int32)) [some (.ref v0), some (.int ((((((0 : Int32) + (1 : Int32)) + (1 : Int32)) + (1 : Int32)) + (1 : Int32)) + (1 : Int32)))] dX4_init_72 rfl (congrArg (fun z : Int32 => (((((0 : Int32) + (1 : Int32)) + (1 : Int32)) + (1 : Int32)) + (1 : Int32)) + z) (show Int32.ofInt (1) = (1 : Int32) by decide)) rfl (Nat.le_of_ble_eq_true rfl) rfl ?_
            refine x_goto 75 50 dX4_init_75 (by decide) ?_
            refine x_iload_n 50 1 dX4_init_50 rfl rfl ?_
            refine x_aload_n 51 0 dX4_init_51 rfl rfl ?_
            obtain ⟨h131, H⟩ := x_ckp H
            refine x_getf 52 11 4 0 (.ref (x_r M126 v0 0)) dX4_init_52 lk_154 (by decide) (by decide) rfl (fun _ => rfl) h131 ?_
            obtain ⟨h132, H⟩ := x_ckp H
            refine x_alen 55 3 dX4_init_55 h132 (by decide) ?_
            refine x_icmp_ge 56 78 dX4_init_56 (by decide) (fun c133 => ?_) (fun c133 => ?_)
            · replace H := x_ifp c133 H
              cases H
              exact x_vret 78 dX4_init_78 rfl (Nat.le_of_ble_eq_true rfl) (Nat.le_of_ble_eq_true rfl) ⟨rfl, rfl⟩
            · replace H := x_ifn c133 H
              refine x_aload_n 59 0 dX4_init_59 rfl rfl ?_
              refine x_getf 60 11 4 0 (.ref (x_r M126 v0 0)) dX4_init_60 lk_154 (by decide) (by decide) rfl (fun _ => rfl) h131 ?_
              refine x_iload_n 63 1 dX4_init_63 rfl rfl ?_
              obtain ⟨a135, M134, w136, w137, H⟩ := x_al_of H
              refine x_newc' 64 9 2 dX4_init_64 (by decide) lk_116 lk_118 lk_87 (Nat.le_of_ble_eq_true rfl) (Nat.le_of_ble_eq_true rfl) w136 w137 ?_
              have h138 : x_tag M134 a135 = 2 + 10 := x_al_tag w136 w137
              change AW _ _ _ _ _ _ 8 44 _ _ _ _
              refine x_dup 67 dX4_init_67 rfl ?_
              obtain ⟨M139, e141, H⟩ := x_bv_of H
              refine x_callIN 68 37 [] [(.ref a135), (.int ((((((0 : Int32) + (1 : Int32)) + (1 : Int32)) + (1 : Int32)) + (1 : Int32)) + (1 : Int32))), (.ref (x_r M126 v0 0))] dX4_init_68 (ct_X2_init l e141) (List.mem_of_getElem? (i := 0) rfl) rfl rfl lk_120 h138 lk_87 lk_121 ⟨cn_X2_init, (by decide), by decide⟩ rfl (Nat.le_of_ble_eq_true rfl) (Nat.le_of_ble_eq_true rfl) (Nat.le_of_ble_eq_true rfl) (x_rv ?_)
              obtain ⟨h142, H⟩ := x_ckp H
              obtain ⟨h143, H⟩ := x_ckp H
              obtain ⟨M144, w145, H⟩ := x_lt_of H
              have h146 : x_at M144 (x_r M126 v0 0) 3 ((((((0 : Int32) + (1 : Int32)) + (1 : Int32)) + (1 : Int32)) + (1 : Int32)) + (1 : Int32)) = true := by rw [w145]; exact h142
              have h147 : x_tag M144 (x_r M126 v0 0) = 3 := by rw [w145]; exact (x_at_1 h142)
              have h148 : x_tag M144 a135 = 2 + 10 := by rw [w145]; exact h143
              refine x_aast3' 71 dX4_init_71 h142 h143 w145 ?_
              refine x_iinc 72 1 (((((((0 : Int32) + (1 : Int32)) + (1 : Int32)) + (1 : Int32)) + (1 : Int32)) + (1 : Int32)) + (1 : Int32)) [some (.ref v0), some (.int (((((((0 : Int32) + (1 : Int32)) + (1 : Int32)) + (1 : Int32)) + (1 : Int32)) + (1 : Int32)) + (1 : Int32)))] dX4_init_72 rfl (congrArg (fun z : Int32 => ((((((0 : Int32) + (1 : Int32)) + (1 : Int32)) + (1 : Int32)) + (1 : Int32)) + (1 : Int32)) + z) (show Int32.ofInt (1) = (1 : Int32) by decide)) rfl (Nat.le_of_ble_eq_true rfl) rfl ?_
              refine x_goto 75 50 dX4_init_75 (by decide) ?_
              refine x_iload_n 50 1 dX4_init_50 rfl rfl ?_
              refine x_aload_n 51 0 dX4_init_51 rfl rfl ?_
              obtain ⟨h149, H⟩ := x_ckp H
              refine x_getf 52 11 4 0 (.ref (x_r M144 v0 0)) dX4_init_52 lk_154 (by decide) (by decide) rfl (fun _ => rfl) h149 ?_
              obtain ⟨h150, H⟩ := x_ckp H
              refine x_alen 55 3 dX4_init_55 h150 (by decide) ?_
              refine x_icmp_ge 56 78 dX4_init_56 (by decide) (fun c151 => ?_) (fun c151 => ?_)
              · replace H := x_ifp c151 H
                cases H
                exact x_vret 78 dX4_init_78 rfl (Nat.le_of_ble_eq_true rfl) (Nat.le_of_ble_eq_true rfl) ⟨rfl, rfl⟩
              · replace H := x_ifn c151 H
                refine x_aload_n 59 0 dX4_init_59 rfl rfl ?_
                refine x_getf 60 11 4 0 (.ref (x_r M144 v0 0)) dX4_init_60 lk_154 (by decide) (by decide) rfl (fun _ => rfl) h149 ?_
                refine x_iload_n 63 1 dX4_init_63 rfl rfl ?_
                obtain ⟨a153, M152, w154, w155, H⟩ := x_al_of H
                refine x_newc' 64 9 2 dX4_init_64 (by decide) lk_116 lk_118 lk_87 (Nat.le_of_ble_eq_true rfl) (Nat.le_of_ble_eq_true rfl) w154 w155 ?_
                have h156 : x_tag M152 a153 = 2 + 10 := x_al_tag w154 w155
                change AW _ _ _ _ _ _ 9 49 _ _ _ _
                refine x_dup 67 dX4_init_67 rfl ?_
                obtain ⟨M157, e159, H⟩ := x_bv_of H
                refine x_callIN 68 37 [] [(.ref a153), (.int (((((((0 : Int32) + (1 : Int32)) + (1 : Int32)) + (1 : Int32)) + (1 : Int32)) + (1 : Int32)) + (1 : Int32))), (.ref (x_r M144 v0 0))] dX4_init_68 (ct_X2_init l e159) (List.mem_of_getElem? (i := 0) rfl) rfl rfl lk_120 h156 lk_87 lk_121 ⟨cn_X2_init, (by decide), by decide⟩ rfl (Nat.le_of_ble_eq_true rfl) (Nat.le_of_ble_eq_true rfl) (Nat.le_of_ble_eq_true rfl) (x_rv ?_)
                obtain ⟨h160, H⟩ := x_ckp H
                obtain ⟨h161, H⟩ := x_ckp H
                obtain ⟨M162, w163, H⟩ := x_lt_of H
                have h164 : x_at M162 (x_r M144 v0 0) 3 (((((((0 : Int32) + (1 : Int32)) + (1 : Int32)) + (1 : Int32)) + (1 : Int32)) + (1 : Int32)) + (1 : Int32)) = true := by rw [w163]; exact h160
                have h165 : x_tag M162 (x_r M144 v0 0) = 3 := by rw [w163]; exact (x_at_1 h160)
                have h166 : x_tag M162 a153 = 2 + 10 := by rw [w163]; exact h161
                refine x_aast3' 71 dX4_init_71 h160 h161 w163 ?_
                refine x_iinc 72 1 ((((((((0 : Int32) + (1 : Int32)) + (1 : Int32)) + (1 : Int32)) + (1 : Int32)) + (1 : Int32)) + (1 : Int32)) + (1 : Int32)) [some (.ref v0), some (.int ((((((((0 : Int32) + (1 : Int32)) + (1 : Int32)) + (1 : Int32)) + (1 : Int32)) + (1 : Int32)) + (1 : Int32)) + (1 : Int32)))] dX4_init_72 rfl (congrArg (fun z : Int32 => (((((((0 : Int32) + (1 : Int32)) + (1 : Int32)) + (1 : Int32)) + (1 : Int32)) + (1 : Int32)) + (1 : Int32)) + z) (show Int32.ofInt (1) = (1 : Int32) by decide)) rfl (Nat.le_of_ble_eq_true rfl) rfl ?_
                refine x_goto 75 50 dX4_init_75 (by decide) ?_
                cases H

theorem ct_X4_init (l : Launch) {v0 : Nat} {M : XM} {q : XM} (H : f_X4_init v0 M = some q) : Ct l m_X4_init 2 9 49 [(.ref v0)] M (x_Rv q) := x_met l m_X4_init 2 9 49 [(.ref v0)] M (x_Rv q) _ rfl rfl (Nat.le_of_ble_eq_true rfl) (t_X4_init l H)
theorem lk_159 : Cond.fieldLink RX4 42 RX4 "count" "I" ∈ x_TB := x_tb (k := 159) (by decide +kernel) rfl
theorem lk_179 : Cond.fieldLink RX4 45 RX4 "tallyCount" "I" ∈ x_TB := x_tb (k := 179) (by decide +kernel) rfl
theorem lk_181 : Cond.fieldLink RX4 48 RX4 "done" "I" ∈ x_TB := x_tb (k := 181) (by decide +kernel) rfl
theorem lk_582 : Cond.code yX2_becomeLike cX2_becomeLike 2 none ∈ x_TB := x_tb (k := 582) (by decide +kernel) rfl
theorem lk_579 : Cond.methodLink RX4 38 yX2_becomeLike ∈ x_TB := x_tb (k := 579) (by decide +kernel) rfl
theorem lk_581 : Cond.selects RX2 yX2_becomeLike yX2_becomeLike ∈ x_TB := x_tb (k := 581) (by decide +kernel) rfl
theorem lk_580 : Cond.instanceMethod yX2_becomeLike ∈ x_TB := x_tb (k := 580) (by decide +kernel) rfl
abbrev m_X4_becomeLike : XU := (yX4_becomeLike, cX4_becomeLike, 3, none)
theorem cn_X4_becomeLike : m_X4_becomeLike.1.cls ≠ "java/lang/invoke/MethodHandle" ∧ m_X4_becomeLike.1.cls ≠ "java/lang/invoke/VarHandle" ∧ (parseMethodDescriptor m_X4_becomeLike.1.desc).map (fun q => q.parameters.length) = some 1 := by decide +kernel
def bd_X4_becomeLike_74 (κ74 : Nat → Nat → Int32 → XM → Option XM) (v0 : Nat) (v1 : Nat) (v2 : Int32) (M : XM) : Option XM :=
  if x_tag M v0 = 4 + 10 then (if x_tag M (x_r M v0 6) = 1 then (if (Int32.ofNat (x_len M (x_r M v0 6))) ≤ v2 then (if x_tag M v1 = 4 + 10 then (x_lt (x_wi M v0 7 (x_i M v1 7)) (fun M34 => x_lt (x_wi M34 v0 8 (x_i M34 v1 8)) (fun M39 => x_lt (x_wi M39 v0 9 (x_i M39 v1 9)) (fun M44 => some M44)))) else none) else (if x_tag M v1 = 4 + 10 then (if x_at M (x_r M v1 6) 1 v2 = true then (if x_at M (x_r M v0 6) 1 v2 = true then (x_lt (x_wi M (x_r M v0 6) v2.toNatClampNeg (x_i M (x_r M v1 6) v2.toNatClampNeg)) (fun M52 => κ74 v0 v1 (v2 + (1 : Int32)) M52)) else none) else none) else none)) else none) else none
set_option maxRecDepth 20000 in
set_option maxHeartbeats 4000000 in
theorem tb_X4_becomeLike_74 (l : Launch) {κ74 : Nat → Nat → Int32 → XM → Option XM} {v0 : Nat} {v1 : Nat} {v2 : Int32} {M : XM} {q : XM} (hκ74 : ∀ (v0 : Nat) (v1 : Nat) (v2 : Int32) (M : XM), κ74 v0 v1 v2 M = some q → AW l m_X4_becomeLike 2 0 0 (x_Rv q) 0 0 74 [some (.ref v0), some (.ref v1), some (.int v2)] [] M) (H : bd_X4_becomeLike_74 κ74 v0 v1 v2 M = some q) : AW l m_X4_becomeLike 2 0 0 (x_Rv q) 0 0 74 [some (.ref v0), some (.ref v1), some (.int v2)] [] M := by
  unfold bd_X4_becomeLike_74 at H
  refine x_iload_n 74 2 dX4_becomeLike_74 rfl rfl ?_
  refine x_aload_n 75 0 dX4_becomeLike_75 rfl rfl ?_
  obtain ⟨h30, H⟩ := x_ckp H
  refine x_getf 76 30 4 6 (.ref (x_r M v0 6)) dX4_becomeLike_76 lk_177 (by decide) (by decide) rfl (fun _ => rfl) h30 ?_
  obtain ⟨h31, H⟩ := x_ckp H
  refine x_alen 79 1 dX4_becomeLike_79 h31 (by decide) ?_
  refine x_icmp_ge 80 101 dX4_becomeLike_80 (by decide) (fun c32 => ?_) (fun c32 => ?_)
  · replace H := x_ifp c32 H
    refine x_aload_n 101 0 dX4_becomeLike_101 rfl rfl ?_
    refine x_aload_n 102 1 dX4_becomeLike_102 rfl rfl ?_
    obtain ⟨h33, H⟩ := x_ckp H
    refine x_getf 103 45 4 7 (.int (x_i M v1 7)) dX4_becomeLike_103 lk_179 (by decide) (by decide) rfl (fun _ => rfl) h33 ?_
    obtain ⟨M34, w35, H⟩ := x_lt_of H
    have h36 : x_tag M34 v0 = 4 + 10 := by rw [w35]; exact h30
    have h37 : x_tag M34 (x_r M v0 6) = 1 := by rw [w35]; exact h31
    have h38 : x_tag M34 v1 = 4 + 10 := by rw [w35]; exact h33
    refine x_putI' 106 45 4 7 dX4_becomeLike_106 lk_179 (by decide) (by decide) rfl (Or.inl rfl) (Or.inl rfl) h30 w35 ?_
    refine x_aload_n 109 0 dX4_becomeLike_109 rfl rfl ?_
    refine x_aload_n 110 1 dX4_becomeLike_110 rfl rfl ?_
    refine x_getf 111 48 4 8 (.int (x_i M34 v1 8)) dX4_becomeLike_111 lk_181 (by decide) (by decide) rfl (fun _ => rfl) h38 ?_
    obtain ⟨M39, w40, H⟩ := x_lt_of H
    have h41 : x_tag M39 v0 = 4 + 10 := by rw [w40]; exact h36
    have h42 : x_tag M39 (x_r M v0 6) = 1 := by rw [w40]; exact h37
    have h43 : x_tag M39 v1 = 4 + 10 := by rw [w40]; exact h38
    refine x_putI' 114 48 4 8 dX4_becomeLike_114 lk_181 (by decide) (by decide) rfl (Or.inl rfl) (Or.inl rfl) h36 w40 ?_
    refine x_aload_n 117 0 dX4_becomeLike_117 rfl rfl ?_
    refine x_aload_n 118 1 dX4_becomeLike_118 rfl rfl ?_
    refine x_getf 119 34 4 9 (.int (x_i M39 v1 9)) dX4_becomeLike_119 lk_183 (by decide) (by decide) rfl (fun _ => rfl) h43 ?_
    obtain ⟨M44, w45, H⟩ := x_lt_of H
    have h46 : x_tag M44 v0 = 4 + 10 := by rw [w45]; exact h41
    have h47 : x_tag M44 (x_r M v0 6) = 1 := by rw [w45]; exact h42
    have h48 : x_tag M44 v1 = 4 + 10 := by rw [w45]; exact h43
    refine x_putI' 122 34 4 9 dX4_becomeLike_122 lk_183 (by decide) (by decide) rfl (Or.inl rfl) (Or.inl rfl) h41 w45 ?_
    cases H
    exact x_vret 125 dX4_becomeLike_125 rfl (Nat.le_of_ble_eq_true rfl) (Nat.le_of_ble_eq_true rfl) ⟨rfl, rfl⟩
  · replace H := x_ifn c32 H
    refine x_aload_n 83 0 dX4_becomeLike_83 rfl rfl ?_
    refine x_getf 84 30 4 6 (.ref (x_r M v0 6)) dX4_becomeLike_84 lk_177 (by decide) (by decide) rfl (fun _ => rfl) h30 ?_
    refine x_iload_n 87 2 dX4_becomeLike_87 rfl rfl ?_
    refine x_aload_n 88 1 dX4_becomeLike_88 rfl rfl ?_
    obtain ⟨h49, H⟩ := x_ckp H
    refine x_getf 89 30 4 6 (.ref (x_r M v1 6)) dX4_becomeLike_89 lk_177 (by decide) (by decide) rfl (fun _ => rfl) h49 ?_
    refine x_iload_n 92 2 dX4_becomeLike_92 rfl rfl ?_
    obtain ⟨h50, H⟩ := x_ckp H
    refine x_iald 93 dX4_becomeLike_93 h50 ?_
    obtain ⟨h51, H⟩ := x_ckp H
    obtain ⟨M52, w53, H⟩ := x_lt_of H
    have h54 : x_tag M52 v0 = 4 + 10 := by rw [w53]; exact h30
    have h55 : x_tag M52 (x_r M v0 6) = 1 := by rw [w53]; exact h31
    have h56 : x_tag M52 v1 = 4 + 10 := by rw [w53]; exact h49
    have h57 : x_at M52 (x_r M v1 6) 1 v2 = true := by rw [w53]; exact h50
    have h58 : x_tag M52 (x_r M v1 6) = 1 := by rw [w53]; exact (x_at_1 h50)
    have h59 : x_at M52 (x_r M v0 6) 1 v2 = true := by rw [w53]; exact h51
    refine x_iast' 94 dX4_becomeLike_94 h51 w53 ?_
    refine x_iinc 95 2 (v2 + (1 : Int32)) [some (.ref v0), some (.ref v1), some (.int (v2 + (1 : Int32)))] dX4_becomeLike_95 rfl (congrArg (fun z : Int32 => v2 + z) (show Int32.ofInt (1) = (1 : Int32) by decide)) rfl (Nat.le_of_ble_eq_true rfl) rfl ?_
    refine x_goto 98 74 dX4_becomeLike_98 (by decide) ?_
    exact hκ74 _ _ _ _ H

def lp_X4_becomeLike_74 (n : Nat) : Nat → Nat → Int32 → XM → Option XM := x_rec (fun _ _ _ _ => none) (bd_X4_becomeLike_74) n
theorem t_X4_becomeLike_74 (l : Launch) {q : XM} : ∀ (n : Nat) (v0 : Nat) (v1 : Nat) (v2 : Int32) (M : XM), lp_X4_becomeLike_74 n v0 v1 v2 M = some q → AW l m_X4_becomeLike 2 0 0 (x_Rv q) 0 0 74 [some (.ref v0), some (.ref v1), some (.int v2)] [] M := by
  intro n
  induction n with
  | zero => intro v0 v1 v2 M H; cases H
  | succ n ih => intro v0 v1 v2 M H; exact tb_X4_becomeLike_74 l ih H
def f_X4_becomeLike_c23 (κ2 : Nat → Nat → Int32 → XM → Option XM) (v0 : Nat) (v1 : Nat) (v2 : Int32) (M : XM) : Option XM :=
  κ2 v0 v1 (v2 + (1 : Int32)) M
set_option maxRecDepth 20000 in
set_option maxHeartbeats 4000000 in
theorem t_X4_becomeLike_c23 (l : Launch) {κ2 : Nat → Nat → Int32 → XM → Option XM} {v0 : Nat} {v1 : Nat} {v2 : Int32} {M : XM} {q : XM} (hκ2 : ∀ (v0 : Nat) (v1 : Nat) (v2 : Int32) (M : XM), κ2 v0 v1 v2 M = some q → AW l m_X4_becomeLike 2 0 0 (x_Rv q) 0 0 2 [some (.ref v0), some (.ref v1), some (.int v2)] [] M) (H : f_X4_becomeLike_c23 κ2 v0 v1 v2 M = some q) : AW l m_X4_becomeLike 2 0 0 (x_Rv q) 0 0 26 [some (.ref v0), some (.ref v1), some (.int v2)] [] M := by
  unfold f_X4_becomeLike_c23 at H
  refine x_iinc 26 2 (v2 + (1 : Int32)) [some (.ref v0), some (.ref v1), some (.int (v2 + (1 : Int32)))] dX4_becomeLike_26 rfl (congrArg (fun z : Int32 => v2 + z) (show Int32.ofInt (1) = (1 : Int32) by decide)) rfl (Nat.le_of_ble_eq_true rfl) rfl ?_
  refine x_goto 29 2 dX4_becomeLike_29 (by decide) ?_
  exact hκ2 _ _ _ _ H

def bd_X4_becomeLike_2 (κ2 : Nat → Nat → Int32 → XM → Option XM) (v0 : Nat) (v1 : Nat) (v2 : Int32) (M : XM) : Option XM :=
  if x_tag M v0 = 4 + 10 then (if x_tag M (x_r M v0 0) = 3 then (if (Int32.ofNat (x_len M (x_r M v0 0))) ≤ v2 then (if x_tag M v1 = 4 + 10 then (x_lt (x_wi M v0 1 (x_i M v1 1)) (fun M5 => x_lt (x_wi M5 v0 2 (x_i M5 v1 2)) (fun M10 => x_lt (x_wi M10 v0 3 (x_i M10 v1 3)) (fun M15 => x_lt (x_wi M15 v0 4 (x_i M15 v1 4)) (fun M20 => x_lt (x_wi M20 v0 5 (x_i M20 v1 5)) (fun M25 => lp_X4_becomeLike_74 x_fuel v0 v1 (0 : Int32) M25)))))) else none) else (if x_at M (x_r M v0 0) 3 v2 = true then (if x_tag M v1 = 4 + 10 then (if x_at M (x_r M v1 0) 3 v2 = true then (if x_tag M (x_r M (x_r M v0 0) v2.toNatClampNeg) = 2 + 10 then (x_bv (f_X2_becomeLike (x_r M (x_r M v0 0) v2.toNatClampNeg) (x_r M (x_r M v1 0) v2.toNatClampNeg) M) (f_X4_becomeLike_c23 κ2 v0 v1 v2)) else none) else none) else none) else none)) else none) else none
set_option maxRecDepth 20000 in
set_option maxHeartbeats 4000000 in
theorem tb_X4_becomeLike_2 (l : Launch) {κ2 : Nat → Nat → Int32 → XM → Option XM} {v0 : Nat} {v1 : Nat} {v2 : Int32} {M : XM} {q : XM} (hκ2 : ∀ (v0 : Nat) (v1 : Nat) (v2 : Int32) (M : XM), κ2 v0 v1 v2 M = some q → AW l m_X4_becomeLike 2 0 0 (x_Rv q) 0 0 2 [some (.ref v0), some (.ref v1), some (.int v2)] [] M) (H : bd_X4_becomeLike_2 κ2 v0 v1 v2 M = some q) : AW l m_X4_becomeLike 2 0 0 (x_Rv q) 0 0 2 [some (.ref v0), some (.ref v1), some (.int v2)] [] M := by
  unfold bd_X4_becomeLike_2 at H
  refine x_iload_n 2 2 dX4_becomeLike_2 rfl rfl ?_
  refine x_aload_n 3 0 dX4_becomeLike_3 rfl rfl ?_
  obtain ⟨h1, H⟩ := x_ckp H
  refine x_getf 4 11 4 0 (.ref (x_r M v0 0)) dX4_becomeLike_4 lk_154 (by decide) (by decide) rfl (fun _ => rfl) h1 ?_
  obtain ⟨h2, H⟩ := x_ckp H
  refine x_alen 7 3 dX4_becomeLike_7 h2 (by decide) ?_
  refine x_icmp_ge 8 32 dX4_becomeLike_8 (by decide) (fun c3 => ?_) (fun c3 => ?_)
  · replace H := x_ifp c3 H
    refine x_aload_n 32 0 dX4_becomeLike_32 rfl rfl ?_
    refine x_aload_n 33 1 dX4_becomeLike_33 rfl rfl ?_
    obtain ⟨h4, H⟩ := x_ckp H
    refine x_getf 34 42 4 1 (.int (x_i M v1 1)) dX4_becomeLike_34 lk_159 (by decide) (by decide) rfl (fun _ => rfl) h4 ?_
    obtain ⟨M5, w6, H⟩ := x_lt_of H
    have h7 : x_tag M5 v0 = 4 + 10 := by rw [w6]; exact h1
    have h8 : x_tag M5 (x_r M v0 0) = 3 := by rw [w6]; exact h2
    have h9 : x_tag M5 v1 = 4 + 10 := by rw [w6]; exact h4
    refine x_putI' 37 42 4 1 dX4_becomeLike_37 lk_159 (by decide) (by decide) rfl (Or.inl rfl) (Or.inl rfl) h1 w6 ?_
    refine x_aload_n 40 0 dX4_becomeLike_40 rfl rfl ?_
    refine x_aload_n 41 1 dX4_becomeLike_41 rfl rfl ?_
    refine x_getf 42 17 4 2 (.int (x_i M5 v1 2)) dX4_becomeLike_42 lk_162 (by decide) (by decide) rfl (fun _ => rfl) h9 ?_
    obtain ⟨M10, w11, H⟩ := x_lt_of H
    have h12 : x_tag M10 v0 = 4 + 10 := by rw [w11]; exact h7
    have h13 : x_tag M10 (x_r M v0 0) = 3 := by rw [w11]; exact h8
    have h14 : x_tag M10 v1 = 4 + 10 := by rw [w11]; exact h9
    refine x_putI' 45 17 4 2 dX4_becomeLike_45 lk_162 (by decide) (by decide) rfl (Or.inl rfl) (Or.inl rfl) h7 w11 ?_
    refine x_aload_n 48 0 dX4_becomeLike_48 rfl rfl ?_
    refine x_aload_n 49 1 dX4_becomeLike_49 rfl rfl ?_
    refine x_getf 50 21 4 3 (.int (x_i M10 v1 3)) dX4_becomeLike_50 lk_167 (by decide) (by decide) rfl (fun _ => rfl) h14 ?_
    obtain ⟨M15, w16, H⟩ := x_lt_of H
    have h17 : x_tag M15 v0 = 4 + 10 := by rw [w16]; exact h12
    have h18 : x_tag M15 (x_r M v0 0) = 3 := by rw [w16]; exact h13
    have h19 : x_tag M15 v1 = 4 + 10 := by rw [w16]; exact h14
    refine x_putI' 53 21 4 3 dX4_becomeLike_53 lk_167 (by decide) (by decide) rfl (Or.inl rfl) (Or.inl rfl) h12 w16 ?_
    refine x_aload_n 56 0 dX4_becomeLike_56 rfl rfl ?_
    refine x_aload_n 57 1 dX4_becomeLike_57 rfl rfl ?_
    refine x_getf 58 24 4 4 (.int (x_i M15 v1 4)) dX4_becomeLike_58 lk_172 (by decide) (by decide) rfl (fun _ => rfl) h19 ?_
    obtain ⟨M20, w21, H⟩ := x_lt_of H
    have h22 : x_tag M20 v0 = 4 + 10 := by rw [w21]; exact h17
    have h23 : x_tag M20 (x_r M v0 0) = 3 := by rw [w21]; exact h18
    have h24 : x_tag M20 v1 = 4 + 10 := by rw [w21]; exact h19
    refine x_putI' 61 24 4 4 dX4_becomeLike_61 lk_172 (by decide) (by decide) rfl (Or.inl rfl) (Or.inl rfl) h17 w21 ?_
    refine x_aload_n 64 0 dX4_becomeLike_64 rfl rfl ?_
    refine x_aload_n 65 1 dX4_becomeLike_65 rfl rfl ?_
    refine x_getf 66 27 4 5 (.int (x_i M20 v1 5)) dX4_becomeLike_66 lk_175 (by decide) (by decide) rfl (fun _ => rfl) h24 ?_
    obtain ⟨M25, w26, H⟩ := x_lt_of H
    have h27 : x_tag M25 v0 = 4 + 10 := by rw [w26]; exact h22
    have h28 : x_tag M25 (x_r M v0 0) = 3 := by rw [w26]; exact h23
    have h29 : x_tag M25 v1 = 4 + 10 := by rw [w26]; exact h24
    refine x_putI' 69 27 4 5 dX4_becomeLike_69 lk_175 (by decide) (by decide) rfl (Or.inl rfl) (Or.inl rfl) h22 w26 ?_
    refine x_iconst 72 (0 : Int32) dX4_becomeLike_72 (by decide) ?_
    refine x_istore_n 73 2 [some (.ref v0), some (.ref v1), some (.int (0 : Int32))] dX4_becomeLike_73 rfl rfl (Nat.le_of_ble_eq_true rfl) rfl ?_
    exact t_X4_becomeLike_74 l _ _ _ _ _ H
  · replace H := x_ifn c3 H
    refine x_aload_n 11 0 dX4_becomeLike_11 rfl rfl ?_
    refine x_getf 12 11 4 0 (.ref (x_r M v0 0)) dX4_becomeLike_12 lk_154 (by decide) (by decide) rfl (fun _ => rfl) h1 ?_
    refine x_iload_n 15 2 dX4_becomeLike_15 rfl rfl ?_
    obtain ⟨h60, H⟩ := x_ckp H
    refine x_aald3 16 dX4_becomeLike_16 h60 ?_
    refine x_aload_n 17 1 dX4_becomeLike_17 rfl rfl ?_
    obtain ⟨h61, H⟩ := x_ckp H
    refine x_getf 18 11 4 0 (.ref (x_r M v1 0)) dX4_becomeLike_18 lk_154 (by decide) (by decide) rfl (fun _ => rfl) h61 ?_
    refine x_iload_n 21 2 dX4_becomeLike_21 rfl rfl ?_
    obtain ⟨h62, H⟩ := x_ckp H
    refine x_aald3 22 dX4_becomeLike_22 h62 ?_
    obtain ⟨h63, H⟩ := x_ckp H
    obtain ⟨M64, e66, H⟩ := x_bv_of H
    refine x_callV 23 38 2 [(.ref (x_r M (x_r M v1 0) v2.toNatClampNeg))] [] dX4_becomeLike_23 (ct_X2_becomeLike l e66) lk_579 lk_580 lk_581 (by decide) h63 lk_87 lk_582 ⟨cn_X2_becomeLike, (by decide), by decide⟩ rfl (Nat.le_of_ble_eq_true rfl) (Nat.le_of_ble_eq_true rfl) (Nat.le_of_ble_eq_true rfl) (x_rv ?_)
    exact t_X4_becomeLike_c23 l hκ2 H

def lp_X4_becomeLike_2 (n : Nat) : Nat → Nat → Int32 → XM → Option XM := x_rec (fun _ _ _ _ => none) (bd_X4_becomeLike_2) n
theorem t_X4_becomeLike_2 (l : Launch) {q : XM} : ∀ (n : Nat) (v0 : Nat) (v1 : Nat) (v2 : Int32) (M : XM), lp_X4_becomeLike_2 n v0 v1 v2 M = some q → AW l m_X4_becomeLike 2 0 0 (x_Rv q) 0 0 2 [some (.ref v0), some (.ref v1), some (.int v2)] [] M := by
  intro n
  induction n with
  | zero => intro v0 v1 v2 M H; cases H
  | succ n ih => intro v0 v1 v2 M H; exact tb_X4_becomeLike_2 l ih H
def f_X4_becomeLike (v0 : Nat) (v1 : Nat) (M : XM) : Option XM :=
  lp_X4_becomeLike_2 x_fuel v0 v1 (0 : Int32) M
set_option maxRecDepth 20000 in
set_option maxHeartbeats 4000000 in
theorem t_X4_becomeLike (l : Launch) {v0 : Nat} {v1 : Nat} {M : XM} {q : XM} (H : f_X4_becomeLike v0 v1 M = some q) : AW l m_X4_becomeLike 2 0 0 (x_Rv q) 0 0 0 [some (.ref v0), some (.ref v1), none] [] M := by
  unfold f_X4_becomeLike at H
  refine x_iconst 0 (0 : Int32) dX4_becomeLike_0 (by decide) ?_
  refine x_istore_n 1 2 [some (.ref v0), some (.ref v1), some (.int (0 : Int32))] dX4_becomeLike_1 rfl rfl (Nat.le_of_ble_eq_true rfl) rfl ?_
  exact t_X4_becomeLike_2 l _ _ _ _ _ H

theorem ct_X4_becomeLike (l : Launch) {v0 : Nat} {v1 : Nat} {M : XM} {q : XM} (H : f_X4_becomeLike v0 v1 M = some q) : Ct l m_X4_becomeLike 2 0 0 [(.ref v0), (.ref v1)] M (x_Rv q) := x_met l m_X4_becomeLike 2 0 0 [(.ref v0), (.ref v1)] M (x_Rv q) _ rfl rfl (Nat.le_of_ble_eq_true rfl) (t_X4_becomeLike l H)
abbrev m_X4_hasRoomForCounter : XU := (yX4_hasRoomForCounter, cX4_hasRoomForCounter, 1, (some .boolean))
theorem cn_X4_hasRoomForCounter : m_X4_hasRoomForCounter.1.cls ≠ "java/lang/invoke/MethodHandle" ∧ m_X4_hasRoomForCounter.1.cls ≠ "java/lang/invoke/VarHandle" ∧ (parseMethodDescriptor m_X4_hasRoomForCounter.1.desc).map (fun q => q.parameters.length) = some 0 := by decide +kernel
def f_X4_hasRoomForCounter (v0 : Nat) (M : XM) : Option (Int32 × XM) :=
  if x_tag M v0 = 4 + 10 then (if x_tag M (x_r M v0 0) = 3 then (if (Int32.ofNat (x_len M (x_r M v0 0))) ≤ (x_i M v0 1) then (some ((0 : Int32), M)) else (some ((1 : Int32), M))) else none) else none
set_option maxRecDepth 20000 in
set_option maxHeartbeats 4000000 in
theorem t_X4_hasRoomForCounter (l : Launch) {v0 : Nat} {M : XM} {q : Int32 × XM} (H : f_X4_hasRoomForCounter v0 M = some q) : AW l m_X4_hasRoomForCounter 1 0 0 (x_Ri q) 0 0 0 [some (.ref v0)] [] M := by
  unfold f_X4_hasRoomForCounter at H
  refine x_aload_n 0 0 dX4_hasRoomForCounter_0 rfl rfl ?_
  obtain ⟨h1, H⟩ := x_ckp H
  refine x_getf 1 42 4 1 (.int (x_i M v0 1)) dX4_hasRoomForCounter_1 lk_159 (by decide) (by decide) rfl (fun _ => rfl) h1 ?_
  refine x_aload_n 4 0 dX4_hasRoomForCounter_4 rfl rfl ?_
  refine x_getf 5 11 4 0 (.ref (x_r M v0 0)) dX4_hasRoomForCounter_5 lk_154 (by decide) (by decide) rfl (fun _ => rfl) h1 ?_
  obtain ⟨h2, H⟩ := x_ckp H
  refine x_alen 8 3 dX4_hasRoomForCounter_8 h2 (by decide) ?_
  refine x_icmp_ge 9 16 dX4_hasRoomForCounter_9 (by decide) (fun c3 => ?_) (fun c3 => ?_)
  · replace H := x_ifp c3 H
    refine x_iconst 16 (0 : Int32) dX4_hasRoomForCounter_16 (by decide) ?_
    cases H
    exact x_iret 17 dX4_hasRoomForCounter_17 .boolean rfl rfl (Nat.le_of_ble_eq_true rfl) (Nat.le_of_ble_eq_true rfl) ⟨rfl, rfl⟩
  · replace H := x_ifn c3 H
    refine x_iconst 12 (1 : Int32) dX4_hasRoomForCounter_12 (by decide) ?_
    refine x_goto 13 17 dX4_hasRoomForCounter_13 (by decide) ?_
    cases H
    exact x_iret 17 dX4_hasRoomForCounter_17 .boolean rfl rfl (Nat.le_of_ble_eq_true rfl) (Nat.le_of_ble_eq_true rfl) ⟨rfl, rfl⟩

theorem ct_X4_hasRoomForCounter (l : Launch) {v0 : Nat} {M : XM} {q : Int32 × XM} (H : f_X4_hasRoomForCounter v0 M = some q) : Ct l m_X4_hasRoomForCounter 1 0 0 [(.ref v0)] M (x_Ri q) := x_met l m_X4_hasRoomForCounter 1 0 0 [(.ref v0)] M (x_Ri q) _ rfl rfl (Nat.le_of_ble_eq_true rfl) (t_X4_hasRoomForCounter l H)
theorem lk_532 : Cond.code yX2_becomeNew cX2_becomeNew 3 none ∈ x_TB := x_tb (k := 532) (by decide +kernel) rfl
theorem lk_529 : Cond.methodLink RX4 51 yX2_becomeNew ∈ x_TB := x_tb (k := 529) (by decide +kernel) rfl
theorem lk_531 : Cond.selects RX2 yX2_becomeNew yX2_becomeNew ∈ x_TB := x_tb (k := 531) (by decide +kernel) rfl
theorem lk_530 : Cond.instanceMethod yX2_becomeNew ∈ x_TB := x_tb (k := 530) (by decide +kernel) rfl
abbrev m_X4_addCounter : XU := (yX4_addCounter, cX4_addCounter, 3, (some .int))
theorem cn_X4_addCounter : m_X4_addCounter.1.cls ≠ "java/lang/invoke/MethodHandle" ∧ m_X4_addCounter.1.cls ≠ "java/lang/invoke/VarHandle" ∧ (parseMethodDescriptor m_X4_addCounter.1.desc).map (fun q => q.parameters.length) = some 2 := by decide +kernel
def f_X4_addCounter_c11 (v0 : Nat) (M : XM) : Option (Int32 × XM) :=
  if x_tag M v0 = 4 + 10 then (x_lt (x_wi M v0 1 ((x_i M v0 1) + (1 : Int32))) (fun M8 => some (((x_i M8 v0 1) - (1 : Int32)), M8))) else none
set_option maxRecDepth 20000 in
set_option maxHeartbeats 4000000 in
theorem t_X4_addCounter_c11 (l : Launch) {v0 : Nat} {M : XM} {q : Int32 × XM} (H : f_X4_addCounter_c11 v0 M = some q) : AW l m_X4_addCounter 3 0 0 (x_Ri q) 0 0 14 [some (.ref v0), none, none] [] M := by
  unfold f_X4_addCounter_c11 at H
  refine x_aload_n 14 0 dX4_addCounter_14 rfl rfl ?_
  refine x_dup 15 dX4_addCounter_15 rfl ?_
  obtain ⟨h7, H⟩ := x_ckp H
  refine x_getf 16 42 4 1 (.int (x_i M v0 1)) dX4_addCounter_16 lk_159 (by decide) (by decide) rfl (fun _ => rfl) h7 ?_
  refine x_iconst 19 (1 : Int32) dX4_addCounter_19 (by decide) ?_
  refine x_iadd 20 dX4_addCounter_20 ?_
  obtain ⟨M8, w9, H⟩ := x_lt_of H
  have h10 : x_tag M8 v0 = 4 + 10 := by rw [w9]; exact h7
  refine x_putI' 21 42 4 1 dX4_addCounter_21 lk_159 (by decide) (by decide) rfl (Or.inl rfl) (Or.inl rfl) h7 w9 ?_
  refine x_aload_n 24 0 dX4_addCounter_24 rfl rfl ?_
  refine x_getf 25 42 4 1 (.int (x_i M8 v0 1)) dX4_addCounter_25 lk_159 (by decide) (by decide) rfl (fun _ => rfl) h10 ?_
  refine x_iconst 28 (1 : Int32) dX4_addCounter_28 (by decide) ?_
  refine x_isub 29 dX4_addCounter_29 ?_
  cases H
  exact x_iret 30 dX4_addCounter_30 .int rfl rfl (Nat.le_of_ble_eq_true rfl) (Nat.le_of_ble_eq_true rfl) ⟨rfl, rfl⟩

def f_X4_addCounter (v0 : Nat) (v1 : Int32) (v2 : Int32) (M : XM) : Option (Int32 × XM) :=
  if x_tag M v0 = 4 + 10 then (if x_at M (x_r M v0 0) 3 (x_i M v0 1) = true then (if x_tag M (x_r M (x_r M v0 0) (x_i M v0 1).toNatClampNeg) = 2 + 10 then (x_bv (f_X2_becomeNew (x_r M (x_r M v0 0) (x_i M v0 1).toNatClampNeg) v1 v2 M) (f_X4_addCounter_c11 v0)) else none) else none) else none
set_option maxRecDepth 20000 in
set_option maxHeartbeats 4000000 in
theorem t_X4_addCounter (l : Launch) {v0 : Nat} {v1 : Int32} {v2 : Int32} {M : XM} {q : Int32 × XM} (H : f_X4_addCounter v0 v1 v2 M = some q) : AW l m_X4_addCounter 3 0 0 (x_Ri q) 0 0 0 [some (.ref v0), some (.int v1), some (.int v2)] [] M := by
  unfold f_X4_addCounter at H
  refine x_aload_n 0 0 dX4_addCounter_0 rfl rfl ?_
  obtain ⟨h1, H⟩ := x_ckp H
  refine x_getf 1 11 4 0 (.ref (x_r M v0 0)) dX4_addCounter_1 lk_154 (by decide) (by decide) rfl (fun _ => rfl) h1 ?_
  refine x_aload_n 4 0 dX4_addCounter_4 rfl rfl ?_
  refine x_getf 5 42 4 1 (.int (x_i M v0 1)) dX4_addCounter_5 lk_159 (by decide) (by decide) rfl (fun _ => rfl) h1 ?_
  obtain ⟨h2, H⟩ := x_ckp H
  refine x_aald3 8 dX4_addCounter_8 h2 ?_
  refine x_iload_n 9 1 dX4_addCounter_9 rfl rfl ?_
  refine x_iload_n 10 2 dX4_addCounter_10 rfl rfl ?_
  obtain ⟨h3, H⟩ := x_ckp H
  obtain ⟨M4, e6, H⟩ := x_bv_of H
  refine x_callV 11 51 2 [(.int v1), (.int v2)] [] dX4_addCounter_11 (ct_X2_becomeNew l e6) lk_529 lk_530 lk_531 (by decide) h3 lk_87 lk_532 ⟨cn_X2_becomeNew, (by decide), by decide⟩ rfl (Nat.le_of_ble_eq_true rfl) (Nat.le_of_ble_eq_true rfl) (Nat.le_of_ble_eq_true rfl) (x_rv ?_)
  exact x_wk (le_s (le_n (le_n le_0))) (t_X4_addCounter_c11 l H)

theorem ct_X4_addCounter (l : Launch) {v0 : Nat} {v1 : Int32} {v2 : Int32} {M : XM} {q : Int32 × XM} (H : f_X4_addCounter v0 v1 v2 M = some q) : Ct l m_X4_addCounter 3 0 0 [(.ref v0), (.int v1), (.int v2)] M (x_Ri q) := x_met l m_X4_addCounter 3 0 0 [(.ref v0), (.int v1), (.int v2)] M (x_Ri q) _ rfl rfl (Nat.le_of_ble_eq_true rfl) (t_X4_addCounter l H)
abbrev m_X4_hasRoomForTally : XU := (yX4_hasRoomForTally, cX4_hasRoomForTally, 1, (some .boolean))
theorem cn_X4_hasRoomForTally : m_X4_hasRoomForTally.1.cls ≠ "java/lang/invoke/MethodHandle" ∧ m_X4_hasRoomForTally.1.cls ≠ "java/lang/invoke/VarHandle" ∧ (parseMethodDescriptor m_X4_hasRoomForTally.1.desc).map (fun q => q.parameters.length) = some 0 := by decide +kernel
def f_X4_hasRoomForTally (v0 : Nat) (M : XM) : Option (Int32 × XM) :=
  if x_tag M v0 = 4 + 10 then (if x_tag M (x_r M v0 6) = 1 then (if (Int32.ofNat (x_len M (x_r M v0 6))) ≤ (x_i M v0 7) then (some ((0 : Int32), M)) else (some ((1 : Int32), M))) else none) else none
set_option maxRecDepth 20000 in
set_option maxHeartbeats 4000000 in
theorem t_X4_hasRoomForTally (l : Launch) {v0 : Nat} {M : XM} {q : Int32 × XM} (H : f_X4_hasRoomForTally v0 M = some q) : AW l m_X4_hasRoomForTally 1 0 0 (x_Ri q) 0 0 0 [some (.ref v0)] [] M := by
  unfold f_X4_hasRoomForTally at H
  refine x_aload_n 0 0 dX4_hasRoomForTally_0 rfl rfl ?_
  obtain ⟨h1, H⟩ := x_ckp H
  refine x_getf 1 45 4 7 (.int (x_i M v0 7)) dX4_hasRoomForTally_1 lk_179 (by decide) (by decide) rfl (fun _ => rfl) h1 ?_
  refine x_aload_n 4 0 dX4_hasRoomForTally_4 rfl rfl ?_
  refine x_getf 5 30 4 6 (.ref (x_r M v0 6)) dX4_hasRoomForTally_5 lk_177 (by decide) (by decide) rfl (fun _ => rfl) h1 ?_
  obtain ⟨h2, H⟩ := x_ckp H
  refine x_alen 8 1 dX4_hasRoomForTally_8 h2 (by decide) ?_
  refine x_icmp_ge 9 16 dX4_hasRoomForTally_9 (by decide) (fun c3 => ?_) (fun c3 => ?_)
  · replace H := x_ifp c3 H
    refine x_iconst 16 (0 : Int32) dX4_hasRoomForTally_16 (by decide) ?_
    cases H
    exact x_iret 17 dX4_hasRoomForTally_17 .boolean rfl rfl (Nat.le_of_ble_eq_true rfl) (Nat.le_of_ble_eq_true rfl) ⟨rfl, rfl⟩
  · replace H := x_ifn c3 H
    refine x_iconst 12 (1 : Int32) dX4_hasRoomForTally_12 (by decide) ?_
    refine x_goto 13 17 dX4_hasRoomForTally_13 (by decide) ?_
    cases H
    exact x_iret 17 dX4_hasRoomForTally_17 .boolean rfl rfl (Nat.le_of_ble_eq_true rfl) (Nat.le_of_ble_eq_true rfl) ⟨rfl, rfl⟩

theorem ct_X4_hasRoomForTally (l : Launch) {v0 : Nat} {M : XM} {q : Int32 × XM} (H : f_X4_hasRoomForTally v0 M = some q) : Ct l m_X4_hasRoomForTally 1 0 0 [(.ref v0)] M (x_Ri q) := x_met l m_X4_hasRoomForTally 1 0 0 [(.ref v0)] M (x_Ri q) _ rfl rfl (Nat.le_of_ble_eq_true rfl) (t_X4_hasRoomForTally l H)
abbrev m_X4_addTally : XU := (yX4_addTally, cX4_addTally, 2, (some .int))
theorem cn_X4_addTally : m_X4_addTally.1.cls ≠ "java/lang/invoke/MethodHandle" ∧ m_X4_addTally.1.cls ≠ "java/lang/invoke/VarHandle" ∧ (parseMethodDescriptor m_X4_addTally.1.desc).map (fun q => q.parameters.length) = some 1 := by decide +kernel
def f_X4_addTally (v0 : Nat) (v1 : Int32) (M : XM) : Option (Int32 × XM) :=
  if x_tag M v0 = 4 + 10 then (if x_at M (x_r M v0 6) 1 (x_i M v0 7) = true then (x_lt (x_wi M (x_r M v0 6) (x_i M v0 7).toNatClampNeg v1) (fun M3 => x_lt (x_wi M3 v0 7 ((x_i M3 v0 7) + (1 : Int32))) (fun M8 => some ((x_i M8 v0 7), M8)))) else none) else none
set_option maxRecDepth 20000 in
set_option maxHeartbeats 4000000 in
theorem t_X4_addTally (l : Launch) {v0 : Nat} {v1 : Int32} {M : XM} {q : Int32 × XM} (H : f_X4_addTally v0 v1 M = some q) : AW l m_X4_addTally 1 0 0 (x_Ri q) 0 0 0 [some (.ref v0), some (.int v1)] [] M := by
  unfold f_X4_addTally at H
  refine x_aload_n 0 0 dX4_addTally_0 rfl rfl ?_
  obtain ⟨h1, H⟩ := x_ckp H
  refine x_getf 1 30 4 6 (.ref (x_r M v0 6)) dX4_addTally_1 lk_177 (by decide) (by decide) rfl (fun _ => rfl) h1 ?_
  refine x_aload_n 4 0 dX4_addTally_4 rfl rfl ?_
  refine x_getf 5 45 4 7 (.int (x_i M v0 7)) dX4_addTally_5 lk_179 (by decide) (by decide) rfl (fun _ => rfl) h1 ?_
  refine x_iload_n 8 1 dX4_addTally_8 rfl rfl ?_
  obtain ⟨h2, H⟩ := x_ckp H
  obtain ⟨M3, w4, H⟩ := x_lt_of H
  have h5 : x_tag M3 v0 = 4 + 10 := by rw [w4]; exact h1
  have h6 : x_at M3 (x_r M v0 6) 1 (x_i M v0 7) = true := by rw [w4]; exact h2
  have h7 : x_tag M3 (x_r M v0 6) = 1 := by rw [w4]; exact (x_at_1 h2)
  refine x_iast' 9 dX4_addTally_9 h2 w4 ?_
  refine x_aload_n 10 0 dX4_addTally_10 rfl rfl ?_
  refine x_dup 11 dX4_addTally_11 rfl ?_
  refine x_getf 12 45 4 7 (.int (x_i M3 v0 7)) dX4_addTally_12 lk_179 (by decide) (by decide) rfl (fun _ => rfl) h5 ?_
  refine x_iconst 15 (1 : Int32) dX4_addTally_15 (by decide) ?_
  refine x_iadd 16 dX4_addTally_16 ?_
  obtain ⟨M8, w9, H⟩ := x_lt_of H
  have h10 : x_tag M8 v0 = 4 + 10 := by rw [w9]; exact h5
  have h11 : x_at M8 (x_r M v0 6) 1 (x_i M v0 7) = true := by rw [w9]; exact h6
  have h12 : x_tag M8 (x_r M v0 6) = 1 := by rw [w9]; exact h7
  refine x_putI' 17 45 4 7 dX4_addTally_17 lk_179 (by decide) (by decide) rfl (Or.inl rfl) (Or.inl rfl) h5 w9 ?_
  refine x_aload_n 20 0 dX4_addTally_20 rfl rfl ?_
  refine x_getf 21 45 4 7 (.int (x_i M8 v0 7)) dX4_addTally_21 lk_179 (by decide) (by decide) rfl (fun _ => rfl) h10 ?_
  cases H
  exact x_iret 24 dX4_addTally_24 .int rfl rfl (Nat.le_of_ble_eq_true rfl) (Nat.le_of_ble_eq_true rfl) ⟨rfl, rfl⟩

theorem ct_X4_addTally (l : Launch) {v0 : Nat} {v1 : Int32} {M : XM} {q : Int32 × XM} (H : f_X4_addTally v0 v1 M = some q) : Ct l m_X4_addTally 1 0 0 [(.ref v0), (.int v1)] M (x_Ri q) := x_met l m_X4_addTally 1 0 0 [(.ref v0), (.int v1)] M (x_Ri q) _ rfl rfl (Nat.le_of_ble_eq_true rfl) (t_X4_addTally l H)
theorem lk_560 : Cond.methodLink RX4 61 Lib.Math.min.name ∈ x_TB := x_tb (k := 560) (by decide +kernel) rfl
abbrev m_X4_holdAllWithinN : XU := (yX4_holdAllWithinN, cX4_holdAllWithinN, 2, none)
theorem cn_X4_holdAllWithinN : m_X4_holdAllWithinN.1.cls ≠ "java/lang/invoke/MethodHandle" ∧ m_X4_holdAllWithinN.1.cls ≠ "java/lang/invoke/VarHandle" ∧ (parseMethodDescriptor m_X4_holdAllWithinN.1.desc).map (fun q => q.parameters.length) = some 0 := by decide +kernel
def bd_X4_holdAllWithinN_2 (κ2 : Nat → Int32 → XM → Option XM) (v0 : Nat) (v1 : Int32) (M : XM) : Option XM :=
  if x_tag M v0 = 4 + 10 then (if (x_i M v0 1) ≤ v1 then (some M) else (if x_at M (x_r M v0 0) 3 v1 = true then (if x_tag M (x_r M (x_r M v0 0) v1.toNatClampNeg) = 2 + 10 then (x_lt (x_wi M (x_r M (x_r M v0 0) v1.toNatClampNeg) 2 (if (x_i M v0 2) < (x_i M (x_r M (x_r M v0 0) v1.toNatClampNeg) 2) then (x_i M v0 2) else (x_i M (x_r M (x_r M v0 0) v1.toNatClampNeg) 2))) (fun M5 => κ2 v0 (v1 + (1 : Int32)) M5)) else none) else none)) else none
set_option maxRecDepth 20000 in
set_option maxHeartbeats 4000000 in
theorem tb_X4_holdAllWithinN_2 (l : Launch) {κ2 : Nat → Int32 → XM → Option XM} {v0 : Nat} {v1 : Int32} {M : XM} {q : XM} (hκ2 : ∀ (v0 : Nat) (v1 : Int32) (M : XM), κ2 v0 v1 M = some q → AW l m_X4_holdAllWithinN 1 0 0 (x_Rv q) 0 0 2 [some (.ref v0), some (.int v1)] [] M) (H : bd_X4_holdAllWithinN_2 κ2 v0 v1 M = some q) : AW l m_X4_holdAllWithinN 1 0 0 (x_Rv q) 0 0 2 [some (.ref v0), some (.int v1)] [] M := by
  unfold bd_X4_holdAllWithinN_2 at H
  refine x_iload_n 2 1 dX4_holdAllWithinN_2 rfl rfl ?_
  refine x_aload_n 3 0 dX4_holdAllWithinN_3 rfl rfl ?_
  obtain ⟨h1, H⟩ := x_ckp H
  refine x_getf 4 42 4 1 (.int (x_i M v0 1)) dX4_holdAllWithinN_4 lk_159 (by decide) (by decide) rfl (fun _ => rfl) h1 ?_
  refine x_icmp_ge 7 41 dX4_holdAllWithinN_7 (by decide) (fun c2 => ?_) (fun c2 => ?_)
  · replace H := x_ifp c2 H
    cases H
    exact x_vret 41 dX4_holdAllWithinN_41 rfl (Nat.le_of_ble_eq_true rfl) (Nat.le_of_ble_eq_true rfl) ⟨rfl, rfl⟩
  · replace H := x_ifn c2 H
    refine x_aload_n 10 0 dX4_holdAllWithinN_10 rfl rfl ?_
    refine x_getf 11 11 4 0 (.ref (x_r M v0 0)) dX4_holdAllWithinN_11 lk_154 (by decide) (by decide) rfl (fun _ => rfl) h1 ?_
    refine x_iload_n 14 1 dX4_holdAllWithinN_14 rfl rfl ?_
    obtain ⟨h3, H⟩ := x_ckp H
    refine x_aald3 15 dX4_holdAllWithinN_15 h3 ?_
    refine x_aload_n 16 0 dX4_holdAllWithinN_16 rfl rfl ?_
    refine x_getf 17 11 4 0 (.ref (x_r M v0 0)) dX4_holdAllWithinN_17 lk_154 (by decide) (by decide) rfl (fun _ => rfl) h1 ?_
    refine x_iload_n 20 1 dX4_holdAllWithinN_20 rfl rfl ?_
    refine x_aald3 21 dX4_holdAllWithinN_21 h3 ?_
    obtain ⟨h4, H⟩ := x_ckp H
    refine x_getf 22 58 2 2 (.int (x_i M (x_r M (x_r M v0 0) v1.toNatClampNeg) 2)) dX4_holdAllWithinN_22 lk_134 (by decide) (by decide) rfl (fun _ => rfl) h4 ?_
    refine x_aload_n 25 0 dX4_holdAllWithinN_25 rfl rfl ?_
    refine x_getf 26 17 4 2 (.int (x_i M v0 2)) dX4_holdAllWithinN_26 lk_162 (by decide) (by decide) rfl (fun _ => rfl) h1 ?_
    refine x_min 29 61 dX4_holdAllWithinN_29 lk_560 lk_561 lk_97 lk_562 rfl (Nat.le_of_ble_eq_true rfl) (by decide) (Nat.le_of_ble_eq_true rfl) (Nat.le_of_ble_eq_true rfl) ?_
    obtain ⟨M5, w6, H⟩ := x_lt_of H
    have h7 : x_tag M5 v0 = 4 + 10 := by rw [w6]; exact h1
    have h8 : x_at M5 (x_r M v0 0) 3 v1 = true := by rw [w6]; exact h3
    have h9 : x_tag M5 (x_r M v0 0) = 3 := by rw [w6]; exact (x_at_1 h3)
    have h10 : x_tag M5 (x_r M (x_r M v0 0) v1.toNatClampNeg) = 2 + 10 := by rw [w6]; exact h4
    refine x_putI' 32 58 2 2 dX4_holdAllWithinN_32 lk_134 (by decide) (by decide) rfl (Or.inl rfl) (Or.inl rfl) h4 w6 ?_
    refine x_iinc 35 1 (v1 + (1 : Int32)) [some (.ref v0), some (.int (v1 + (1 : Int32)))] dX4_holdAllWithinN_35 rfl (congrArg (fun z : Int32 => v1 + z) (show Int32.ofInt (1) = (1 : Int32) by decide)) rfl (Nat.le_of_ble_eq_true rfl) rfl ?_
    refine x_goto 38 2 dX4_holdAllWithinN_38 (by decide) ?_
    exact hκ2 _ _ _ H

def lp_X4_holdAllWithinN_2 (n : Nat) : Nat → Int32 → XM → Option XM := x_rec (fun _ _ _ => none) (bd_X4_holdAllWithinN_2) n
theorem t_X4_holdAllWithinN_2 (l : Launch) {q : XM} : ∀ (n : Nat) (v0 : Nat) (v1 : Int32) (M : XM), lp_X4_holdAllWithinN_2 n v0 v1 M = some q → AW l m_X4_holdAllWithinN 1 0 0 (x_Rv q) 0 0 2 [some (.ref v0), some (.int v1)] [] M := by
  intro n
  induction n with
  | zero => intro v0 v1 M H; cases H
  | succ n ih => intro v0 v1 M H; exact tb_X4_holdAllWithinN_2 l ih H
def f_X4_holdAllWithinN (v0 : Nat) (M : XM) : Option XM :=
  lp_X4_holdAllWithinN_2 x_fuel v0 (0 : Int32) M
set_option maxRecDepth 20000 in
set_option maxHeartbeats 4000000 in
theorem t_X4_holdAllWithinN (l : Launch) {v0 : Nat} {M : XM} {q : XM} (H : f_X4_holdAllWithinN v0 M = some q) : AW l m_X4_holdAllWithinN 1 0 0 (x_Rv q) 0 0 0 [some (.ref v0), none] [] M := by
  unfold f_X4_holdAllWithinN at H
  refine x_iconst 0 (0 : Int32) dX4_holdAllWithinN_0 (by decide) ?_
  refine x_istore_n 1 1 [some (.ref v0), some (.int (0 : Int32))] dX4_holdAllWithinN_1 rfl rfl (Nat.le_of_ble_eq_true rfl) rfl ?_
  exact t_X4_holdAllWithinN_2 l _ _ _ _ H

theorem ct_X4_holdAllWithinN (l : Launch) {v0 : Nat} {M : XM} {q : XM} (H : f_X4_holdAllWithinN v0 M = some q) : Ct l m_X4_holdAllWithinN 1 0 0 [(.ref v0)] M (x_Rv q) := x_met l m_X4_holdAllWithinN 1 0 0 [(.ref v0)] M (x_Rv q) _ rfl rfl (Nat.le_of_ble_eq_true rfl) (t_X4_holdAllWithinN l H)
theorem lk_559 : Cond.code yX4_holdAllWithinN cX4_holdAllWithinN 2 none ∈ x_TB := x_tb (k := 559) (by decide +kernel) rfl
theorem lk_556 : Cond.methodLink RX4 55 yX4_holdAllWithinN ∈ x_TB := x_tb (k := 556) (by decide +kernel) rfl
theorem lk_4 : Cond.selects RX4 yX4_holdAllWithinN yX4_holdAllWithinN ∈ x_TB := x_tb (k := 4) (by decide +kernel) rfl
theorem lk_558 : Cond.instanceMethod yX4_holdAllWithinN ∈ x_TB := x_tb (k := 558) (by decide +kernel) rfl
abbrev m_X4_change : XU := (yX4_change, cX4_change, 4, (some .int))
theorem cn_X4_change : m_X4_change.1.cls ≠ "java/lang/invoke/MethodHandle" ∧ m_X4_change.1.cls ≠ "java/lang/invoke/VarHandle" ∧ (parseMethodDescriptor m_X4_change.1.desc).map (fun q => q.parameters.length) = some 2 := by decide +kernel
def f_X4_change (v0 : Nat) (v1 : Int32) (v2 : Int32) (M : XM) : Option (Int32 × XM) :=
  if v1 = (0 : Int32) then (if x_tag M v0 = 4 + 10 then (x_lt (x_wi M v0 2 v2) (fun M3 => x_bv (f_X4_holdAllWithinN v0 M3) (fun M6 => some ((x_i M v0 2), M6)))) else none) else if v1 = (1 : Int32) then (if x_tag M v0 = 4 + 10 then (x_lt (x_wi M v0 3 v2) (fun M11 => some ((x_i M v0 3), M11))) else none) else if v1 = (2 : Int32) then (if x_tag M v0 = 4 + 10 then (x_lt (x_wi M v0 4 v2) (fun M16 => some ((x_i M v0 4), M16))) else none) else if x_tag M v0 = 4 + 10 then (x_lt (x_wi M v0 5 v2) (fun M20 => some ((x_i M v0 5), M20))) else none
set_option maxRecDepth 20000 in
set_option maxHeartbeats 4000000 in
theorem t_X4_change (l : Launch) {v0 : Nat} {v1 : Int32} {v2 : Int32} {M : XM} {q : Int32 × XM} (H : f_X4_change v0 v1 v2 M = some q) : AW l m_X4_change 2 0 0 (x_Ri q) 0 0 0 [some (.ref v0), some (.int v1), some (.int v2), none] [] M := by
  unfold f_X4_change at H
  refine x_iload_n 0 1 dX4_change_0 rfl rfl ?_
  by_cases c1 : v1 = (0 : Int32)
  · replace H := x_ifp c1 H
    refine x_tableIn (off := 27) 1 28 dX4_change_1 (by rw [c1]; decide) (by rw [c1]; decide) (by rw [c1]; rfl) (by decide) ?_
    refine x_aload_n 28 0 dX4_change_28 rfl rfl ?_
    obtain ⟨h2, H⟩ := x_ckp H
    refine x_getf 29 17 4 2 (.int (x_i M v0 2)) dX4_change_29 lk_162 (by decide) (by decide) rfl (fun _ => rfl) h2 ?_
    refine x_istore_n 32 3 [some (.ref v0), some (.int v1), some (.int v2), some (.int (x_i M v0 2))] dX4_change_32 rfl rfl (Nat.le_of_ble_eq_true rfl) rfl ?_
    refine x_aload_n 33 0 dX4_change_33 rfl rfl ?_
    refine x_iload_n 34 2 dX4_change_34 rfl rfl ?_
    obtain ⟨M3, w4, H⟩ := x_lt_of H
    have h5 : x_tag M3 v0 = 4 + 10 := by rw [w4]; exact h2
    refine x_putI' 35 17 4 2 dX4_change_35 lk_162 (by decide) (by decide) rfl (Or.inl rfl) (Or.inl rfl) h2 w4 ?_
    refine x_aload_n 38 0 dX4_change_38 rfl rfl ?_
    obtain ⟨M6, e8, H⟩ := x_bv_of H
    refine x_callV 39 55 4 [] [] dX4_change_39 (ct_X4_holdAllWithinN l e8) lk_556 lk_558 lk_4 (by decide) h5 lk_86 lk_559 ⟨cn_X4_holdAllWithinN, (by decide), by decide⟩ rfl (Nat.le_of_ble_eq_true rfl) (Nat.le_of_ble_eq_true rfl) (Nat.le_of_ble_eq_true rfl) (x_rv ?_)
    refine x_iload_n 42 3 dX4_change_42 rfl rfl ?_
    cases H
    exact x_iret 43 dX4_change_43 .int rfl rfl (Nat.le_of_ble_eq_true rfl) (Nat.le_of_ble_eq_true rfl) ⟨rfl, rfl⟩
  · replace H := x_ifn c1 H
    by_cases c9 : v1 = (1 : Int32)
    · replace H := x_ifp c9 H
      refine x_tableIn (off := 43) 1 44 dX4_change_1 (by rw [c9]; decide) (by rw [c9]; decide) (by rw [c9]; rfl) (by decide) ?_
      refine x_aload_n 44 0 dX4_change_44 rfl rfl ?_
      obtain ⟨h10, H⟩ := x_ckp H
      refine x_getf 45 21 4 3 (.int (x_i M v0 3)) dX4_change_45 lk_167 (by decide) (by decide) rfl (fun _ => rfl) h10 ?_
      refine x_istore_n 48 3 [some (.ref v0), some (.int v1), some (.int v2), some (.int (x_i M v0 3))] dX4_change_48 rfl rfl (Nat.le_of_ble_eq_true rfl) rfl ?_
      refine x_aload_n 49 0 dX4_change_49 rfl rfl ?_
      refine x_iload_n 50 2 dX4_change_50 rfl rfl ?_
      obtain ⟨M11, w12, H⟩ := x_lt_of H
      have h13 : x_tag M11 v0 = 4 + 10 := by rw [w12]; exact h10
      refine x_putI' 51 21 4 3 dX4_change_51 lk_167 (by decide) (by decide) rfl (Or.inl rfl) (Or.inl rfl) h10 w12 ?_
      refine x_iload_n 54 3 dX4_change_54 rfl rfl ?_
      cases H
      exact x_iret 55 dX4_change_55 .int rfl rfl (Nat.le_of_ble_eq_true rfl) (Nat.le_of_ble_eq_true rfl) ⟨rfl, rfl⟩
    · replace H := x_ifn c9 H
      by_cases c14 : v1 = (2 : Int32)
      · replace H := x_ifp c14 H
        refine x_tableIn (off := 55) 1 56 dX4_change_1 (by rw [c14]; decide) (by rw [c14]; decide) (by rw [c14]; rfl) (by decide) ?_
        refine x_aload_n 56 0 dX4_change_56 rfl rfl ?_
        obtain ⟨h15, H⟩ := x_ckp H
        refine x_getf 57 24 4 4 (.int (x_i M v0 4)) dX4_change_57 lk_172 (by decide) (by decide) rfl (fun _ => rfl) h15 ?_
        refine x_istore_n 60 3 [some (.ref v0), some (.int v1), some (.int v2), some (.int (x_i M v0 4))] dX4_change_60 rfl rfl (Nat.le_of_ble_eq_true rfl) rfl ?_
        refine x_aload_n 61 0 dX4_change_61 rfl rfl ?_
        refine x_iload_n 62 2 dX4_change_62 rfl rfl ?_
        obtain ⟨M16, w17, H⟩ := x_lt_of H
        have h18 : x_tag M16 v0 = 4 + 10 := by rw [w17]; exact h15
        refine x_putI' 63 24 4 4 dX4_change_63 lk_172 (by decide) (by decide) rfl (Or.inl rfl) (Or.inl rfl) h15 w17 ?_
        refine x_iload_n 66 3 dX4_change_66 rfl rfl ?_
        cases H
        exact x_iret 67 dX4_change_67 .int rfl rfl (Nat.le_of_ble_eq_true rfl) (Nat.le_of_ble_eq_true rfl) ⟨rfl, rfl⟩
      · replace H := x_ifn c14 H
        refine x_tableOut 1 68 dX4_change_1 (by have n0 := lv_neT (a := 0) c1 (by decide); have n1 := lv_neT (a := 1) c9 (by decide); have n2 := lv_neT (a := 2) c14 (by decide); omega) (by decide) ?_
        refine x_aload_n 68 0 dX4_change_68 rfl rfl ?_
        obtain ⟨h19, H⟩ := x_ckp H
        refine x_getf 69 27 4 5 (.int (x_i M v0 5)) dX4_change_69 lk_175 (by decide) (by decide) rfl (fun _ => rfl) h19 ?_
        refine x_istore_n 72 3 [some (.ref v0), some (.int v1), some (.int v2), some (.int (x_i M v0 5))] dX4_change_72 rfl rfl (Nat.le_of_ble_eq_true rfl) rfl ?_
        refine x_aload_n 73 0 dX4_change_73 rfl rfl ?_
        refine x_iload_n 74 2 dX4_change_74 rfl rfl ?_
        obtain ⟨M20, w21, H⟩ := x_lt_of H
        have h22 : x_tag M20 v0 = 4 + 10 := by rw [w21]; exact h19
        refine x_putI' 75 27 4 5 dX4_change_75 lk_175 (by decide) (by decide) rfl (Or.inl rfl) (Or.inl rfl) h19 w21 ?_
        refine x_iload_n 78 3 dX4_change_78 rfl rfl ?_
        cases H
        exact x_iret 79 dX4_change_79 .int rfl rfl (Nat.le_of_ble_eq_true rfl) (Nat.le_of_ble_eq_true rfl) ⟨rfl, rfl⟩

theorem ct_X4_change (l : Launch) {v0 : Nat} {v1 : Int32} {v2 : Int32} {M : XM} {q : Int32 × XM} (H : f_X4_change v0 v1 v2 M = some q) : Ct l m_X4_change 2 0 0 [(.ref v0), (.int v1), (.int v2)] M (x_Ri q) := x_met l m_X4_change 2 0 0 [(.ref v0), (.int v1), (.int v2)] M (x_Ri q) _ rfl rfl (Nat.le_of_ble_eq_true rfl) (t_X4_change l H)
theorem lk_705 : Cond.methodLink RX4 67 yX4_isThrough ∈ x_TB := x_tb (k := 705) (by decide +kernel) rfl
abbrev m_X4_countThrough : XU := (yX4_countThrough, cX4_countThrough, 3, (some .int))
theorem cn_X4_countThrough : m_X4_countThrough.1.cls ≠ "java/lang/invoke/MethodHandle" ∧ m_X4_countThrough.1.cls ≠ "java/lang/invoke/VarHandle" ∧ (parseMethodDescriptor m_X4_countThrough.1.desc).map (fun q => q.parameters.length) = some 0 := by decide +kernel
def f_X4_countThrough_23 (κ4 : Nat → Int32 → Int32 → XM → Option (Int32 × XM)) (v0 : Nat) (v1 : Int32) (v2 : Int32) (M : XM) : Option (Int32 × XM) :=
  κ4 v0 v1 (v2 + (1 : Int32)) M
set_option maxRecDepth 20000 in
set_option maxHeartbeats 4000000 in
theorem t_X4_countThrough_23 (l : Launch) {κ4 : Nat → Int32 → Int32 → XM → Option (Int32 × XM)} {v0 : Nat} {v1 : Int32} {v2 : Int32} {M : XM} {q : Int32 × XM} (hκ4 : ∀ (v0 : Nat) (v1 : Int32) (v2 : Int32) (M : XM), κ4 v0 v1 v2 M = some q → AW l m_X4_countThrough 2 0 0 (x_Ri q) 0 0 4 [some (.ref v0), some (.int v1), some (.int v2)] [] M) (H : f_X4_countThrough_23 κ4 v0 v1 v2 M = some q) : AW l m_X4_countThrough 2 0 0 (x_Ri q) 0 0 23 [some (.ref v0), some (.int v1), some (.int v2)] [] M := by
  unfold f_X4_countThrough_23 at H
  refine x_iinc 23 2 (v2 + (1 : Int32)) [some (.ref v0), some (.int v1), some (.int (v2 + (1 : Int32)))] dX4_countThrough_23 rfl (congrArg (fun z : Int32 => v2 + z) (show Int32.ofInt (1) = (1 : Int32) by decide)) rfl (Nat.le_of_ble_eq_true rfl) rfl ?_
  refine x_goto 26 4 dX4_countThrough_26 (by decide) ?_
  exact hκ4 _ _ _ _ H

def f_X4_countThrough_c14 (κ4 : Nat → Int32 → Int32 → XM → Option (Int32 × XM)) (v0 : Nat) (v1 : Int32) (v2 : Int32) (s0 : Int32) (M : XM) : Option (Int32 × XM) :=
  if s0 = 0 then (f_X4_countThrough_23 κ4 v0 v1 v2 M) else (f_X4_countThrough_23 κ4 v0 (v1 + (1 : Int32)) v2 M)
set_option maxRecDepth 20000 in
set_option maxHeartbeats 4000000 in
theorem t_X4_countThrough_c14 (l : Launch) {κ4 : Nat → Int32 → Int32 → XM → Option (Int32 × XM)} {v0 : Nat} {v1 : Int32} {v2 : Int32} {s0 : Int32} {M : XM} {q : Int32 × XM} (hκ4 : ∀ (v0 : Nat) (v1 : Int32) (v2 : Int32) (M : XM), κ4 v0 v1 v2 M = some q → AW l m_X4_countThrough 2 0 0 (x_Ri q) 0 0 4 [some (.ref v0), some (.int v1), some (.int v2)] [] M) (H : f_X4_countThrough_c14 κ4 v0 v1 v2 s0 M = some q) : AW l m_X4_countThrough 2 0 0 (x_Ri q) 0 0 17 [some (.ref v0), some (.int v1), some (.int v2)] [(.int s0)] M := by
  unfold f_X4_countThrough_c14 at H
  refine x_if_eq 17 23 dX4_countThrough_17 (by decide) (fun c6 => ?_) (fun c6 => ?_)
  · replace H := x_ifp c6 H
    exact t_X4_countThrough_23 l hκ4 H
  · replace H := x_ifn c6 H
    refine x_iinc 20 1 (v1 + (1 : Int32)) [some (.ref v0), some (.int (v1 + (1 : Int32))), some (.int v2)] dX4_countThrough_20 rfl (congrArg (fun z : Int32 => v1 + z) (show Int32.ofInt (1) = (1 : Int32) by decide)) rfl (Nat.le_of_ble_eq_true rfl) rfl ?_
    exact t_X4_countThrough_23 l hκ4 H

def bd_X4_countThrough_4 (κ4 : Nat → Int32 → Int32 → XM → Option (Int32 × XM)) (v0 : Nat) (v1 : Int32) (v2 : Int32) (M : XM) : Option (Int32 × XM) :=
  if x_tag M v0 = 4 + 10 then (if (x_i M v0 1) ≤ v2 then (some (v1, M)) else (x_bd (f_X4_isThrough v0 v2 M) (f_X4_countThrough_c14 κ4 v0 v1 v2))) else none
set_option maxRecDepth 20000 in
set_option maxHeartbeats 4000000 in
theorem tb_X4_countThrough_4 (l : Launch) {κ4 : Nat → Int32 → Int32 → XM → Option (Int32 × XM)} {v0 : Nat} {v1 : Int32} {v2 : Int32} {M : XM} {q : Int32 × XM} (hκ4 : ∀ (v0 : Nat) (v1 : Int32) (v2 : Int32) (M : XM), κ4 v0 v1 v2 M = some q → AW l m_X4_countThrough 2 0 0 (x_Ri q) 0 0 4 [some (.ref v0), some (.int v1), some (.int v2)] [] M) (H : bd_X4_countThrough_4 κ4 v0 v1 v2 M = some q) : AW l m_X4_countThrough 2 0 0 (x_Ri q) 0 0 4 [some (.ref v0), some (.int v1), some (.int v2)] [] M := by
  unfold bd_X4_countThrough_4 at H
  refine x_iload_n 4 2 dX4_countThrough_4 rfl rfl ?_
  refine x_aload_n 5 0 dX4_countThrough_5 rfl rfl ?_
  obtain ⟨h1, H⟩ := x_ckp H
  refine x_getf 6 42 4 1 (.int (x_i M v0 1)) dX4_countThrough_6 lk_159 (by decide) (by decide) rfl (fun _ => rfl) h1 ?_
  refine x_icmp_ge 9 29 dX4_countThrough_9 (by decide) (fun c2 => ?_) (fun c2 => ?_)
  · replace H := x_ifp c2 H
    refine x_iload_n 29 1 dX4_countThrough_29 rfl rfl ?_
    cases H
    exact x_iret 30 dX4_countThrough_30 .int rfl rfl (Nat.le_of_ble_eq_true rfl) (Nat.le_of_ble_eq_true rfl) ⟨rfl, rfl⟩
  · replace H := x_ifn c2 H
    refine x_aload_n 12 0 dX4_countThrough_12 rfl rfl ?_
    refine x_iload_n 13 2 dX4_countThrough_13 rfl rfl ?_
    obtain ⟨r4, M3, e5, H⟩ := x_bd_of H
    refine x_callV 14 67 4 [(.int v2)] [] dX4_countThrough_14 (ct_X4_isThrough l e5) lk_705 lk_698 lk_699 (by decide) h1 lk_86 lk_700 ⟨cn_X4_isThrough, (by decide), by decide⟩ rfl (Nat.le_of_ble_eq_true rfl) (Nat.le_of_ble_eq_true rfl) (Nat.le_of_ble_eq_true rfl) (x_ri ?_)
    exact t_X4_countThrough_c14 l hκ4 H

def lp_X4_countThrough_4 (n : Nat) : Nat → Int32 → Int32 → XM → Option (Int32 × XM) := x_rec (fun _ _ _ _ => none) (bd_X4_countThrough_4) n
theorem t_X4_countThrough_4 (l : Launch) {q : Int32 × XM} : ∀ (n : Nat) (v0 : Nat) (v1 : Int32) (v2 : Int32) (M : XM), lp_X4_countThrough_4 n v0 v1 v2 M = some q → AW l m_X4_countThrough 2 0 0 (x_Ri q) 0 0 4 [some (.ref v0), some (.int v1), some (.int v2)] [] M := by
  intro n
  induction n with
  | zero => intro v0 v1 v2 M H; cases H
  | succ n ih => intro v0 v1 v2 M H; exact tb_X4_countThrough_4 l ih H
def f_X4_countThrough (v0 : Nat) (M : XM) : Option (Int32 × XM) :=
  lp_X4_countThrough_4 x_fuel v0 (0 : Int32) (0 : Int32) M
set_option maxRecDepth 20000 in
set_option maxHeartbeats 4000000 in
theorem t_X4_countThrough (l : Launch) {v0 : Nat} {M : XM} {q : Int32 × XM} (H : f_X4_countThrough v0 M = some q) : AW l m_X4_countThrough 2 0 0 (x_Ri q) 0 0 0 [some (.ref v0), none, none] [] M := by
  unfold f_X4_countThrough at H
  refine x_iconst 0 (0 : Int32) dX4_countThrough_0 (by decide) ?_
  refine x_istore_n 1 1 [some (.ref v0), some (.int (0 : Int32)), none] dX4_countThrough_1 rfl rfl (Nat.le_of_ble_eq_true rfl) rfl ?_
  refine x_iconst 2 (0 : Int32) dX4_countThrough_2 (by decide) ?_
  refine x_istore_n 3 2 [some (.ref v0), some (.int (0 : Int32)), some (.int (0 : Int32))] dX4_countThrough_3 rfl rfl (Nat.le_of_ble_eq_true rfl) rfl ?_
  exact t_X4_countThrough_4 l _ _ _ _ _ H

theorem ct_X4_countThrough (l : Launch) {v0 : Nat} {M : XM} {q : Int32 × XM} (H : f_X4_countThrough v0 M = some q) : Ct l m_X4_countThrough 2 0 0 [(.ref v0)] M (x_Ri q) := x_met l m_X4_countThrough 2 0 0 [(.ref v0)] M (x_Ri q) _ rfl rfl (Nat.le_of_ble_eq_true rfl) (t_X4_countThrough l H)
theorem lk_709 : Cond.code yX2_hear cX2_hear 2 none ∈ x_TB := x_tb (k := 709) (by decide +kernel) rfl
theorem lk_706 : Cond.methodLink RX4 71 yX2_hear ∈ x_TB := x_tb (k := 706) (by decide +kernel) rfl
theorem lk_708 : Cond.selects RX2 yX2_hear yX2_hear ∈ x_TB := x_tb (k := 708) (by decide +kernel) rfl
theorem lk_707 : Cond.instanceMethod yX2_hear ∈ x_TB := x_tb (k := 707) (by decide +kernel) rfl
abbrev m_X4_pass : XU := (yX4_pass, cX4_pass, 3, none)
theorem cn_X4_pass : m_X4_pass.1.cls ≠ "java/lang/invoke/MethodHandle" ∧ m_X4_pass.1.cls ≠ "java/lang/invoke/VarHandle" ∧ (parseMethodDescriptor m_X4_pass.1.desc).map (fun q => q.parameters.length) = some 2 := by decide +kernel
def f_X4_pass_c46 (v0 : Nat) (s0 : Int32) (M : XM) : Option XM :=
  if s0 = 0 then (some M) else (if x_tag M v0 = 4 + 10 then (x_lt (x_wi M v0 8 ((x_i M v0 8) + (1 : Int32))) (fun M22 => some M22)) else none)
set_option maxRecDepth 20000 in
set_option maxHeartbeats 4000000 in
theorem t_X4_pass_c46 (l : Launch) {v0 : Nat} {s0 : Int32} {M : XM} {q : XM} (H : f_X4_pass_c46 v0 s0 M = some q) : AW l m_X4_pass 3 0 0 (x_Rv q) 0 0 49 [some (.ref v0), none, none] [(.int s0)] M := by
  unfold f_X4_pass_c46 at H
  refine x_if_eq 49 62 dX4_pass_49 (by decide) (fun c20 => ?_) (fun c20 => ?_)
  · replace H := x_ifp c20 H
    cases H
    exact x_vret 62 dX4_pass_62 rfl (Nat.le_of_ble_eq_true rfl) (Nat.le_of_ble_eq_true rfl) ⟨rfl, rfl⟩
  · replace H := x_ifn c20 H
    refine x_aload_n 52 0 dX4_pass_52 rfl rfl ?_
    refine x_dup 53 dX4_pass_53 rfl ?_
    obtain ⟨h21, H⟩ := x_ckp H
    refine x_getf 54 48 4 8 (.int (x_i M v0 8)) dX4_pass_54 lk_181 (by decide) (by decide) rfl (fun _ => rfl) h21 ?_
    refine x_iconst 57 (1 : Int32) dX4_pass_57 (by decide) ?_
    refine x_iadd 58 dX4_pass_58 ?_
    obtain ⟨M22, w23, H⟩ := x_lt_of H
    have h24 : x_tag M22 v0 = 4 + 10 := by rw [w23]; exact h21
    refine x_putI' 59 48 4 8 dX4_pass_59 lk_181 (by decide) (by decide) rfl (Or.inl rfl) (Or.inl rfl) h21 w23 ?_
    cases H
    exact x_vret 62 dX4_pass_62 rfl (Nat.le_of_ble_eq_true rfl) (Nat.le_of_ble_eq_true rfl) ⟨rfl, rfl⟩

def f_X4_pass_44 (v0 : Nat) (v1 : Int32) (M : XM) : Option XM :=
  if x_tag M v0 = 4 + 10 then (x_bd (f_X4_isThrough v0 v1 M) (f_X4_pass_c46 v0)) else none
set_option maxRecDepth 20000 in
set_option maxHeartbeats 4000000 in
theorem t_X4_pass_44 (l : Launch) {v0 : Nat} {v1 : Int32} {M : XM} {q : XM} (H : f_X4_pass_44 v0 v1 M = some q) : AW l m_X4_pass 3 0 0 (x_Rv q) 0 0 44 [some (.ref v0), some (.int v1), none] [] M := by
  unfold f_X4_pass_44 at H
  refine x_aload_n 44 0 dX4_pass_44 rfl rfl ?_
  refine x_iload_n 45 1 dX4_pass_45 rfl rfl ?_
  obtain ⟨h16, H⟩ := x_ckp H
  obtain ⟨r18, M17, e19, H⟩ := x_bd_of H
  refine x_callV 46 67 4 [(.int v1)] [] dX4_pass_46 (ct_X4_isThrough l e19) lk_705 lk_698 lk_699 (by decide) h16 lk_86 lk_700 ⟨cn_X4_isThrough, (by decide), by decide⟩ rfl (Nat.le_of_ble_eq_true rfl) (Nat.le_of_ble_eq_true rfl) (Nat.le_of_ble_eq_true rfl) (x_ri ?_)
  exact x_wk (le_s (le_n (le_s le_0))) (t_X4_pass_c46 l H)

def f_X4_pass_c23 (v0 : Nat) (v1 : Int32) (M : XM) : Option XM :=
  f_X4_pass_44 v0 v1 M
set_option maxRecDepth 20000 in
set_option maxHeartbeats 4000000 in
theorem t_X4_pass_c23 (l : Launch) {v0 : Nat} {v1 : Int32} {M : XM} {q : XM} (H : f_X4_pass_c23 v0 v1 M = some q) : AW l m_X4_pass 3 0 0 (x_Rv q) 0 0 26 [some (.ref v0), some (.int v1), none] [] M := by
  unfold f_X4_pass_c23 at H
  refine x_goto 26 44 dX4_pass_26 (by decide) ?_
  exact t_X4_pass_44 l H

def f_X4_pass_c2 (v0 : Nat) (v1 : Int32) (v2 : Int32) (s0 : Int32) (M : XM) : Option XM :=
  if s0 = 0 then (if v2 = 0 then (if x_tag M v0 = 4 + 10 then (if x_at M (x_r M v0 0) 3 v1 = true then (if x_tag M (x_r M (x_r M v0 0) v1.toNatClampNeg) = 2 + 10 then (x_lt (x_wi M (x_r M (x_r M v0 0) v1.toNatClampNeg) 2 ((x_i M (x_r M (x_r M v0 0) v1.toNatClampNeg) 2) + (1 : Int32))) (fun M10 => f_X4_pass_44 v0 v1 M10)) else none) else none) else none) else (if x_tag M v0 = 4 + 10 then (if x_at M (x_r M v0 0) 3 v1 = true then (if x_tag M (x_r M (x_r M v0 0) v1.toNatClampNeg) = 2 + 10 then (x_bv (f_X2_hear (x_r M (x_r M v0 0) v1.toNatClampNeg) (x_i M v0 3) M) (f_X4_pass_c23 v0 v1)) else none) else none) else none)) else (some M)
set_option maxRecDepth 20000 in
set_option maxHeartbeats 4000000 in
theorem t_X4_pass_c2 (l : Launch) {v0 : Nat} {v1 : Int32} {v2 : Int32} {s0 : Int32} {M : XM} {q : XM} (H : f_X4_pass_c2 v0 v1 v2 s0 M = some q) : AW l m_X4_pass 3 0 0 (x_Rv q) 0 0 5 [some (.ref v0), some (.int v1), some (.int v2)] [(.int s0)] M := by
  unfold f_X4_pass_c2 at H
  refine x_if_eq 5 9 dX4_pass_5 (by decide) (fun c5 => ?_) (fun c5 => ?_)
  · replace H := x_ifp c5 H
    refine x_iload_n 9 2 dX4_pass_9 rfl rfl ?_
    refine x_if_eq 10 29 dX4_pass_10 (by decide) (fun c6 => ?_) (fun c6 => ?_)
    · replace H := x_ifp c6 H
      refine x_aload_n 29 0 dX4_pass_29 rfl rfl ?_
      obtain ⟨h7, H⟩ := x_ckp H
      refine x_getf 30 11 4 0 (.ref (x_r M v0 0)) dX4_pass_30 lk_154 (by decide) (by decide) rfl (fun _ => rfl) h7 ?_
      refine x_iload_n 33 1 dX4_pass_33 rfl rfl ?_
      obtain ⟨h8, H⟩ := x_ckp H
      refine x_aald3 34 dX4_pass_34 h8 ?_
      refine x_dup 35 dX4_pass_35 rfl ?_
      obtain ⟨h9, H⟩ := x_ckp H
      refine x_getf 36 58 2 2 (.int (x_i M (x_r M (x_r M v0 0) v1.toNatClampNeg) 2)) dX4_pass_36 lk_134 (by decide) (by decide) rfl (fun _ => rfl) h9 ?_
      refine x_iconst 39 (1 : Int32) dX4_pass_39 (by decide) ?_
      refine x_iadd 40 dX4_pass_40 ?_
      obtain ⟨M10, w11, H⟩ := x_lt_of H
      have h12 : x_tag M10 v0 = 4 + 10 := by rw [w11]; exact h7
      have h13 : x_at M10 (x_r M v0 0) 3 v1 = true := by rw [w11]; exact h8
      have h14 : x_tag M10 (x_r M v0 0) = 3 := by rw [w11]; exact (x_at_1 h8)
      have h15 : x_tag M10 (x_r M (x_r M v0 0) v1.toNatClampNeg) = 2 + 10 := by rw [w11]; exact h9
      refine x_putI' 41 58 2 2 dX4_pass_41 lk_134 (by decide) (by decide) rfl (Or.inl rfl) (Or.inl rfl) h9 w11 ?_
      exact x_wk (le_s (le_s (le_n le_0))) (t_X4_pass_44 l H)
    · replace H := x_ifn c6 H
      refine x_aload_n 13 0 dX4_pass_13 rfl rfl ?_
      obtain ⟨h25, H⟩ := x_ckp H
      refine x_getf 14 11 4 0 (.ref (x_r M v0 0)) dX4_pass_14 lk_154 (by decide) (by decide) rfl (fun _ => rfl) h25 ?_
      refine x_iload_n 17 1 dX4_pass_17 rfl rfl ?_
      obtain ⟨h26, H⟩ := x_ckp H
      refine x_aald3 18 dX4_pass_18 h26 ?_
      refine x_aload_n 19 0 dX4_pass_19 rfl rfl ?_
      refine x_getf 20 21 4 3 (.int (x_i M v0 3)) dX4_pass_20 lk_167 (by decide) (by decide) rfl (fun _ => rfl) h25 ?_
      obtain ⟨h27, H⟩ := x_ckp H
      obtain ⟨M28, e30, H⟩ := x_bv_of H
      refine x_callV 23 71 2 [(.int (x_i M v0 3))] [] dX4_pass_23 (ct_X2_hear l e30) lk_706 lk_707 lk_708 (by decide) h27 lk_87 lk_709 ⟨cn_X2_hear, (by decide), by decide⟩ rfl (Nat.le_of_ble_eq_true rfl) (Nat.le_of_ble_eq_true rfl) (Nat.le_of_ble_eq_true rfl) (x_rv ?_)
      exact x_wk (le_s (le_s (le_n le_0))) (t_X4_pass_c23 l H)
  · replace H := x_ifn c5 H
    cases H
    exact x_vret 8 dX4_pass_8 rfl (Nat.le_of_ble_eq_true rfl) (Nat.le_of_ble_eq_true rfl) ⟨rfl, rfl⟩

def f_X4_pass (v0 : Nat) (v1 : Int32) (v2 : Int32) (M : XM) : Option XM :=
  if x_tag M v0 = 4 + 10 then (x_bd (f_X4_isThrough v0 v1 M) (f_X4_pass_c2 v0 v1 v2)) else none
set_option maxRecDepth 20000 in
set_option maxHeartbeats 4000000 in
theorem t_X4_pass (l : Launch) {v0 : Nat} {v1 : Int32} {v2 : Int32} {M : XM} {q : XM} (H : f_X4_pass v0 v1 v2 M = some q) : AW l m_X4_pass 3 0 0 (x_Rv q) 0 0 0 [some (.ref v0), some (.int v1), some (.int v2)] [] M := by
  unfold f_X4_pass at H
  refine x_aload_n 0 0 dX4_pass_0 rfl rfl ?_
  refine x_iload_n 1 1 dX4_pass_1 rfl rfl ?_
  obtain ⟨h1, H⟩ := x_ckp H
  obtain ⟨r3, M2, e4, H⟩ := x_bd_of H
  refine x_callV 2 67 4 [(.int v1)] [] dX4_pass_2 (ct_X4_isThrough l e4) lk_705 lk_698 lk_699 (by decide) h1 lk_86 lk_700 ⟨cn_X4_isThrough, (by decide), by decide⟩ rfl (Nat.le_of_ble_eq_true rfl) (Nat.le_of_ble_eq_true rfl) (Nat.le_of_ble_eq_true rfl) (x_ri ?_)
  exact t_X4_pass_c2 l H

theorem ct_X4_pass (l : Launch) {v0 : Nat} {v1 : Int32} {v2 : Int32} {M : XM} {q : XM} (H : f_X4_pass v0 v1 v2 M = some q) : Ct l m_X4_pass 3 0 0 [(.ref v0), (.int v1), (.int v2)] M (x_Rv q) := x_met l m_X4_pass 3 0 0 [(.ref v0), (.int v1), (.int v2)] M (x_Rv q) _ rfl rfl (Nat.le_of_ble_eq_true rfl) (t_X4_pass l H)
theorem lk_958 : Cond.code yX4_countThrough cX4_countThrough 3 (some .int) ∈ x_TB := x_tb (k := 958) (by decide +kernel) rfl
theorem lk_955 : Cond.methodLink RX4 78 yX4_countThrough ∈ x_TB := x_tb (k := 955) (by decide +kernel) rfl
theorem lk_957 : Cond.selects RX4 yX4_countThrough yX4_countThrough ∈ x_TB := x_tb (k := 957) (by decide +kernel) rfl
theorem lk_956 : Cond.instanceMethod yX4_countThrough ∈ x_TB := x_tb (k := 956) (by decide +kernel) rfl
theorem lk_963 : Cond.constant RX4 89 (1103515245 : Int32) ∈ x_TB := x_tb (k := 963) (by decide +kernel) rfl
abbrev m_X4_drawThousandth : XU := (yX4_drawThousandth, cX4_drawThousandth, 1, (some .int))
theorem cn_X4_drawThousandth : m_X4_drawThousandth.1.cls ≠ "java/lang/invoke/MethodHandle" ∧ m_X4_drawThousandth.1.cls ≠ "java/lang/invoke/VarHandle" ∧ (parseMethodDescriptor m_X4_drawThousandth.1.desc).map (fun q => q.parameters.length) = some 0 := by decide +kernel
def f_X4_drawThousandth (v0 : Nat) (M : XM) : Option (Int32 × XM) :=
  if x_tag M v0 = 4 + 10 then (x_lt (x_wi M v0 9 (((x_i M v0 9) * (1103515245 : Int32)) + (12345 : Int32))) (fun M2 => some (((((x_i M2 v0 9).toUInt32 >>> ((16 : Int32).toUInt32 &&& Int32.toUInt32 31)).toInt32) - (((x_i M2 v0 9).toUInt32 >>> ((16 : Int32).toUInt32 &&& Int32.toUInt32 31)).toInt32) / (1000 : Int32) * (1000 : Int32)), M2))) else none
set_option maxRecDepth 20000 in
set_option maxHeartbeats 4000000 in
theorem t_X4_drawThousandth (l : Launch) {v0 : Nat} {M : XM} {q : Int32 × XM} (H : f_X4_drawThousandth v0 M = some q) : AW l m_X4_drawThousandth 1 0 0 (x_Ri q) 0 0 0 [some (.ref v0)] [] M := by
  unfold f_X4_drawThousandth at H
  refine x_aload_n 0 0 dX4_drawThousandth_0 rfl rfl ?_
  refine x_aload_n 1 0 dX4_drawThousandth_1 rfl rfl ?_
  obtain ⟨h1, H⟩ := x_ckp H
  refine x_getf 2 34 4 9 (.int (x_i M v0 9)) dX4_drawThousandth_2 lk_183 (by decide) (by decide) rfl (fun _ => rfl) h1 ?_
  refine x_ldc 5 (1103515245 : Int32) dX4_drawThousandth_5 lk_963 ?_
  refine x_imul 7 dX4_drawThousandth_7 ?_
  refine x_sipush 8 (12345 : Int32) dX4_drawThousandth_8 (by decide) ?_
  refine x_iadd 11 dX4_drawThousandth_11 ?_
  obtain ⟨M2, w3, H⟩ := x_lt_of H
  have h4 : x_tag M2 v0 = 4 + 10 := by rw [w3]; exact h1
  refine x_putI' 12 34 4 9 dX4_drawThousandth_12 lk_183 (by decide) (by decide) rfl (Or.inl rfl) (Or.inl rfl) h1 w3 ?_
  refine x_aload_n 15 0 dX4_drawThousandth_15 rfl rfl ?_
  refine x_getf 16 34 4 9 (.int (x_i M2 v0 9)) dX4_drawThousandth_16 lk_183 (by decide) (by decide) rfl (fun _ => rfl) h4 ?_
  refine x_bipush 19 (16 : Int32) dX4_drawThousandth_19 (by decide) ?_
  refine x_iushr 21 dX4_drawThousandth_21 ?_
  refine x_sipush 22 (1000 : Int32) dX4_drawThousandth_22 (by decide) ?_
  refine x_irem 25 dX4_drawThousandth_25 (by decide) ?_
  cases H
  exact x_iret 26 dX4_drawThousandth_26 .int rfl rfl (Nat.le_of_ble_eq_true rfl) (Nat.le_of_ble_eq_true rfl) ⟨rfl, rfl⟩

theorem ct_X4_drawThousandth (l : Launch) {v0 : Nat} {M : XM} {q : Int32 × XM} (H : f_X4_drawThousandth v0 M = some q) : Ct l m_X4_drawThousandth 1 0 0 [(.ref v0)] M (x_Ri q) := x_met l m_X4_drawThousandth 1 0 0 [(.ref v0)] M (x_Ri q) _ rfl rfl (Nat.le_of_ble_eq_true rfl) (t_X4_drawThousandth l H)
theorem lk_962 : Cond.code yX4_drawThousandth cX4_drawThousandth 1 (some .int) ∈ x_TB := x_tb (k := 962) (by decide +kernel) rfl
theorem lk_959 : Cond.methodLink RX4 82 yX4_drawThousandth ∈ x_TB := x_tb (k := 959) (by decide +kernel) rfl
theorem lk_30 : Cond.selects RX4 yX4_drawThousandth yX4_drawThousandth ∈ x_TB := x_tb (k := 30) (by decide +kernel) rfl
theorem lk_961 : Cond.instanceMethod yX4_drawThousandth ∈ x_TB := x_tb (k := 961) (by decide +kernel) rfl
theorem lk_704 : Cond.code yX4_pass cX4_pass 3 none ∈ x_TB := x_tb (k := 704) (by decide +kernel) rfl
theorem lk_964 : Cond.methodLink RX4 85 yX4_pass ∈ x_TB := x_tb (k := 964) (by decide +kernel) rfl
theorem lk_703 : Cond.selects RX4 yX4_pass yX4_pass ∈ x_TB := x_tb (k := 703) (by decide +kernel) rfl
theorem lk_702 : Cond.instanceMethod yX4_pass ∈ x_TB := x_tb (k := 702) (by decide +kernel) rfl
theorem lk_954 : Cond.methodLink RX4 75 yX2_beginAgain ∈ x_TB := x_tb (k := 954) (by decide +kernel) rfl
abbrev m_X4_passEvening : XU := (yX4_passEvening, cX4_passEvening, 3, none)
theorem cn_X4_passEvening : m_X4_passEvening.1.cls ≠ "java/lang/invoke/MethodHandle" ∧ m_X4_passEvening.1.cls ≠ "java/lang/invoke/VarHandle" ∧ (parseMethodDescriptor m_X4_passEvening.1.desc).map (fun q => q.parameters.length) = some 0 := by decide +kernel
def f_X4_passEvening_83 (κ27 : Nat → Int32 → XM → Option XM) (κ46 : Nat → Int32 → Int32 → XM → Option XM) (v0 : Nat) (v1 : Int32) (v2 : Int32) (M : XM) : Option XM :=
  κ46 v0 v1 (v2 + (1 : Int32)) M
set_option maxRecDepth 20000 in
set_option maxHeartbeats 4000000 in
theorem t_X4_passEvening_83 (l : Launch) {κ27 : Nat → Int32 → XM → Option XM} {κ46 : Nat → Int32 → Int32 → XM → Option XM} {v0 : Nat} {v1 : Int32} {v2 : Int32} {M : XM} {q : XM} (hκ27 : ∀ (v0 : Nat) (v1 : Int32) (M : XM), κ27 v0 v1 M = some q → AW l m_X4_passEvening 4 0 0 (x_Rv q) 0 0 27 [some (.ref v0), some (.int v1), none] [] M) (hκ46 : ∀ (v0 : Nat) (v1 : Int32) (v2 : Int32) (M : XM), κ46 v0 v1 v2 M = some q → AW l m_X4_passEvening 4 0 0 (x_Rv q) 0 0 46 [some (.ref v0), some (.int v1), some (.int v2)] [] M) (H : f_X4_passEvening_83 κ27 κ46 v0 v1 v2 M = some q) : AW l m_X4_passEvening 4 0 0 (x_Rv q) 0 0 83 [some (.ref v0), some (.int v1), some (.int v2)] [] M := by
  unfold f_X4_passEvening_83 at H
  refine x_iinc 83 2 (v2 + (1 : Int32)) [some (.ref v0), some (.int v1), some (.int (v2 + (1 : Int32)))] dX4_passEvening_83 rfl (congrArg (fun z : Int32 => v2 + z) (show Int32.ofInt (1) = (1 : Int32) by decide)) rfl (Nat.le_of_ble_eq_true rfl) rfl ?_
  refine x_goto 86 46 dX4_passEvening_86 (by decide) ?_
  exact hκ46 _ _ _ _ H

def f_X4_passEvening_c80 (κ27 : Nat → Int32 → XM → Option XM) (κ46 : Nat → Int32 → Int32 → XM → Option XM) (v0 : Nat) (v1 : Int32) (v2 : Int32) (M : XM) : Option XM :=
  f_X4_passEvening_83 κ27 κ46 v0 v1 v2 M
set_option maxRecDepth 20000 in
set_option maxHeartbeats 4000000 in
theorem t_X4_passEvening_c80 (l : Launch) {κ27 : Nat → Int32 → XM → Option XM} {κ46 : Nat → Int32 → Int32 → XM → Option XM} {v0 : Nat} {v1 : Int32} {v2 : Int32} {M : XM} {q : XM} (hκ27 : ∀ (v0 : Nat) (v1 : Int32) (M : XM), κ27 v0 v1 M = some q → AW l m_X4_passEvening 4 0 0 (x_Rv q) 0 0 27 [some (.ref v0), some (.int v1), none] [] M) (hκ46 : ∀ (v0 : Nat) (v1 : Int32) (v2 : Int32) (M : XM), κ46 v0 v1 v2 M = some q → AW l m_X4_passEvening 4 0 0 (x_Rv q) 0 0 46 [some (.ref v0), some (.int v1), some (.int v2)] [] M) (H : f_X4_passEvening_c80 κ27 κ46 v0 v1 v2 M = some q) : AW l m_X4_passEvening 4 0 0 (x_Rv q) 0 0 83 [some (.ref v0), some (.int v1), some (.int v2)] [] M := by
  unfold f_X4_passEvening_c80 at H
  exact t_X4_passEvening_83 l hκ27 hκ46 H

def f_X4_passEvening_80 (κ27 : Nat → Int32 → XM → Option XM) (κ46 : Nat → Int32 → Int32 → XM → Option XM) (v0 : Nat) (v1 : Int32) (v2 : Int32) (s0 : Int32) (s1 : Int32) (s2 : Nat) (M : XM) : Option XM :=
  if x_tag M s2 = 4 + 10 then (x_bv (f_X4_pass s2 s1 s0 M) (f_X4_passEvening_c80 κ27 κ46 v0 v1 v2)) else none
set_option maxRecDepth 20000 in
set_option maxHeartbeats 4000000 in
theorem t_X4_passEvening_80 (l : Launch) {κ27 : Nat → Int32 → XM → Option XM} {κ46 : Nat → Int32 → Int32 → XM → Option XM} {v0 : Nat} {v1 : Int32} {v2 : Int32} {s0 : Int32} {s1 : Int32} {s2 : Nat} {M : XM} {q : XM} (hκ27 : ∀ (v0 : Nat) (v1 : Int32) (M : XM), κ27 v0 v1 M = some q → AW l m_X4_passEvening 4 0 0 (x_Rv q) 0 0 27 [some (.ref v0), some (.int v1), none] [] M) (hκ46 : ∀ (v0 : Nat) (v1 : Int32) (v2 : Int32) (M : XM), κ46 v0 v1 v2 M = some q → AW l m_X4_passEvening 4 0 0 (x_Rv q) 0 0 46 [some (.ref v0), some (.int v1), some (.int v2)] [] M) (H : f_X4_passEvening_80 κ27 κ46 v0 v1 v2 s0 s1 s2 M = some q) : AW l m_X4_passEvening 4 0 0 (x_Rv q) 0 0 80 [some (.ref v0), some (.int v1), some (.int v2)] [(.int s0), (.int s1), (.ref s2)] M := by
  unfold f_X4_passEvening_80 at H
  obtain ⟨h22, H⟩ := x_ckp H
  obtain ⟨M23, e25, H⟩ := x_bv_of H
  refine x_callV 80 85 4 [(.int s1), (.int s0)] [] dX4_passEvening_80 (ct_X4_pass l e25) lk_964 lk_702 lk_703 (by decide) h22 lk_86 lk_704 ⟨cn_X4_pass, (by decide), by decide⟩ rfl (Nat.le_of_ble_eq_true rfl) (Nat.le_of_ble_eq_true rfl) (Nat.le_of_ble_eq_true rfl) (x_rv ?_)
  exact t_X4_passEvening_c80 l hκ27 hκ46 H

def f_X4_passEvening_c65 (κ27 : Nat → Int32 → XM → Option XM) (κ46 : Nat → Int32 → Int32 → XM → Option XM) (v0 : Nat) (v1 : Int32) (v2 : Int32) (s1 : Int32) (s2 : Nat) (s0 : Int32) (M : XM) : Option XM :=
  if x_tag M v0 = 4 + 10 then (if (x_i M v0 4) ≤ s0 then (f_X4_passEvening_80 κ27 κ46 v0 v1 v2 (0 : Int32) s1 s2 M) else (f_X4_passEvening_80 κ27 κ46 v0 v1 v2 (1 : Int32) s1 s2 M)) else none
set_option maxRecDepth 20000 in
set_option maxHeartbeats 4000000 in
theorem t_X4_passEvening_c65 (l : Launch) {κ27 : Nat → Int32 → XM → Option XM} {κ46 : Nat → Int32 → Int32 → XM → Option XM} {v0 : Nat} {v1 : Int32} {v2 : Int32} {s1 : Int32} {s2 : Nat} {s0 : Int32} {M : XM} {q : XM} (hκ27 : ∀ (v0 : Nat) (v1 : Int32) (M : XM), κ27 v0 v1 M = some q → AW l m_X4_passEvening 4 0 0 (x_Rv q) 0 0 27 [some (.ref v0), some (.int v1), none] [] M) (hκ46 : ∀ (v0 : Nat) (v1 : Int32) (v2 : Int32) (M : XM), κ46 v0 v1 v2 M = some q → AW l m_X4_passEvening 4 0 0 (x_Rv q) 0 0 46 [some (.ref v0), some (.int v1), some (.int v2)] [] M) (H : f_X4_passEvening_c65 κ27 κ46 v0 v1 v2 s1 s2 s0 M = some q) : AW l m_X4_passEvening 4 0 0 (x_Rv q) 0 0 68 [some (.ref v0), some (.int v1), some (.int v2)] [(.int s0), (.int s1), (.ref s2)] M := by
  unfold f_X4_passEvening_c65 at H
  refine x_aload_n 68 0 dX4_passEvening_68 rfl rfl ?_
  obtain ⟨h20, H⟩ := x_ckp H
  refine x_getf 69 24 4 4 (.int (x_i M v0 4)) dX4_passEvening_69 lk_172 (by decide) (by decide) rfl (fun _ => rfl) h20 ?_
  refine x_icmp_ge 72 79 dX4_passEvening_72 (by decide) (fun c21 => ?_) (fun c21 => ?_)
  · replace H := x_ifp c21 H
    refine x_iconst 79 (0 : Int32) dX4_passEvening_79 (by decide) ?_
    exact t_X4_passEvening_80 l hκ27 hκ46 H
  · replace H := x_ifn c21 H
    refine x_iconst 75 (1 : Int32) dX4_passEvening_75 (by decide) ?_
    refine x_goto 76 80 dX4_passEvening_76 (by decide) ?_
    exact t_X4_passEvening_80 l hκ27 hκ46 H

def f_X4_passEvening_c56 (κ27 : Nat → Int32 → XM → Option XM) (κ46 : Nat → Int32 → Int32 → XM → Option XM) (v0 : Nat) (v1 : Int32) (v2 : Int32) (s0 : Int32) (M : XM) : Option XM :=
  if s0 = 0 then (if x_tag M v0 = 4 + 10 then (x_bd (f_X4_drawThousandth v0 M) (f_X4_passEvening_c65 κ27 κ46 v0 v1 v2 v2 v0)) else none) else (f_X4_passEvening_83 κ27 κ46 v0 v1 v2 M)
set_option maxRecDepth 20000 in
set_option maxHeartbeats 4000000 in
theorem t_X4_passEvening_c56 (l : Launch) {κ27 : Nat → Int32 → XM → Option XM} {κ46 : Nat → Int32 → Int32 → XM → Option XM} {v0 : Nat} {v1 : Int32} {v2 : Int32} {s0 : Int32} {M : XM} {q : XM} (hκ27 : ∀ (v0 : Nat) (v1 : Int32) (M : XM), κ27 v0 v1 M = some q → AW l m_X4_passEvening 4 0 0 (x_Rv q) 0 0 27 [some (.ref v0), some (.int v1), none] [] M) (hκ46 : ∀ (v0 : Nat) (v1 : Int32) (v2 : Int32) (M : XM), κ46 v0 v1 v2 M = some q → AW l m_X4_passEvening 4 0 0 (x_Rv q) 0 0 46 [some (.ref v0), some (.int v1), some (.int v2)] [] M) (H : f_X4_passEvening_c56 κ27 κ46 v0 v1 v2 s0 M = some q) : AW l m_X4_passEvening 4 0 0 (x_Rv q) 0 0 59 [some (.ref v0), some (.int v1), some (.int v2)] [(.int s0)] M := by
  unfold f_X4_passEvening_c56 at H
  refine x_if_ne 59 83 dX4_passEvening_59 (by decide) (fun c15 => ?_) (fun c15 => ?_)
  · replace H := x_ifn c15 H
    exact t_X4_passEvening_83 l hκ27 hκ46 H
  · replace H := x_ifp c15 H
    refine x_aload_n 62 0 dX4_passEvening_62 rfl rfl ?_
    refine x_iload_n 63 2 dX4_passEvening_63 rfl rfl ?_
    refine x_aload_n 64 0 dX4_passEvening_64 rfl rfl ?_
    obtain ⟨h16, H⟩ := x_ckp H
    obtain ⟨r18, M17, e19, H⟩ := x_bd_of H
    refine x_callV 65 82 4 [] [(.int v2), (.ref v0)] dX4_passEvening_65 (ct_X4_drawThousandth l e19) lk_959 lk_961 lk_30 (by decide) h16 lk_86 lk_962 ⟨cn_X4_drawThousandth, (by decide), by decide⟩ rfl (Nat.le_of_ble_eq_true rfl) (Nat.le_of_ble_eq_true rfl) (Nat.le_of_ble_eq_true rfl) (x_ri ?_)
    exact t_X4_passEvening_c65 l hκ27 hκ46 H

def bd_X4_passEvening_46 (κ27 : Nat → Int32 → XM → Option XM) (κ46 : Nat → Int32 → Int32 → XM → Option XM) (v0 : Nat) (v1 : Int32) (v2 : Int32) (M : XM) : Option XM :=
  if x_tag M v0 = 4 + 10 then (if (x_i M v0 1) ≤ v2 then (κ27 v0 (v1 + (1 : Int32)) M) else (x_bd (f_X4_isThrough v0 v2 M) (f_X4_passEvening_c56 κ27 κ46 v0 v1 v2))) else none
set_option maxRecDepth 20000 in
set_option maxHeartbeats 4000000 in
theorem tb_X4_passEvening_46 (l : Launch) {κ27 : Nat → Int32 → XM → Option XM} {κ46 : Nat → Int32 → Int32 → XM → Option XM} {v0 : Nat} {v1 : Int32} {v2 : Int32} {M : XM} {q : XM} (hκ27 : ∀ (v0 : Nat) (v1 : Int32) (M : XM), κ27 v0 v1 M = some q → AW l m_X4_passEvening 4 0 0 (x_Rv q) 0 0 27 [some (.ref v0), some (.int v1), none] [] M) (hκ46 : ∀ (v0 : Nat) (v1 : Int32) (v2 : Int32) (M : XM), κ46 v0 v1 v2 M = some q → AW l m_X4_passEvening 4 0 0 (x_Rv q) 0 0 46 [some (.ref v0), some (.int v1), some (.int v2)] [] M) (H : bd_X4_passEvening_46 κ27 κ46 v0 v1 v2 M = some q) : AW l m_X4_passEvening 4 0 0 (x_Rv q) 0 0 46 [some (.ref v0), some (.int v1), some (.int v2)] [] M := by
  unfold bd_X4_passEvening_46 at H
  refine x_iload_n 46 2 dX4_passEvening_46 rfl rfl ?_
  refine x_aload_n 47 0 dX4_passEvening_47 rfl rfl ?_
  obtain ⟨h10, H⟩ := x_ckp H
  refine x_getf 48 42 4 1 (.int (x_i M v0 1)) dX4_passEvening_48 lk_159 (by decide) (by decide) rfl (fun _ => rfl) h10 ?_
  refine x_icmp_ge 51 89 dX4_passEvening_51 (by decide) (fun c11 => ?_) (fun c11 => ?_)
  · replace H := x_ifp c11 H
    refine x_iinc 89 1 (v1 + (1 : Int32)) [some (.ref v0), some (.int (v1 + (1 : Int32))), some (.int v2)] dX4_passEvening_89 rfl (congrArg (fun z : Int32 => v1 + z) (show Int32.ofInt (1) = (1 : Int32) by decide)) rfl (Nat.le_of_ble_eq_true rfl) rfl ?_
    refine x_goto 92 27 dX4_passEvening_92 (by decide) ?_
    exact x_wk (le_s (le_s (le_n le_0))) (hκ27 _ _ _ H)
  · replace H := x_ifn c11 H
    refine x_aload_n 54 0 dX4_passEvening_54 rfl rfl ?_
    refine x_iload_n 55 2 dX4_passEvening_55 rfl rfl ?_
    obtain ⟨r13, M12, e14, H⟩ := x_bd_of H
    refine x_callV 56 67 4 [(.int v2)] [] dX4_passEvening_56 (ct_X4_isThrough l e14) lk_705 lk_698 lk_699 (by decide) h10 lk_86 lk_700 ⟨cn_X4_isThrough, (by decide), by decide⟩ rfl (Nat.le_of_ble_eq_true rfl) (Nat.le_of_ble_eq_true rfl) (Nat.le_of_ble_eq_true rfl) (x_ri ?_)
    exact t_X4_passEvening_c56 l hκ27 hκ46 H

def lp_X4_passEvening_46 (κ27 : Nat → Int32 → XM → Option XM) (n : Nat) : Nat → Int32 → Int32 → XM → Option XM := x_rec (fun _ _ _ _ => none) (bd_X4_passEvening_46 κ27) n
theorem t_X4_passEvening_46 (l : Launch) {κ27 : Nat → Int32 → XM → Option XM} {q : XM} (hκ27 : ∀ (v0 : Nat) (v1 : Int32) (M : XM), κ27 v0 v1 M = some q → AW l m_X4_passEvening 4 0 0 (x_Rv q) 0 0 27 [some (.ref v0), some (.int v1), none] [] M) : ∀ (n : Nat) (v0 : Nat) (v1 : Int32) (v2 : Int32) (M : XM), lp_X4_passEvening_46 κ27 n v0 v1 v2 M = some q → AW l m_X4_passEvening 4 0 0 (x_Rv q) 0 0 46 [some (.ref v0), some (.int v1), some (.int v2)] [] M := by
  intro n
  induction n with
  | zero => intro v0 v1 v2 M H; cases H
  | succ n ih => intro v0 v1 v2 M H; exact tb_X4_passEvening_46 l hκ27 ih H
def f_X4_passEvening_c34 (κ27 : Nat → Int32 → XM → Option XM) (v0 : Nat) (v1 : Int32) (s0 : Int32) (M : XM) : Option XM :=
  if x_tag M v0 = 4 + 10 then (if (x_i M v0 1) ≤ s0 then (some M) else (lp_X4_passEvening_46 κ27 x_fuel v0 v1 (0 : Int32) M)) else none
set_option maxRecDepth 20000 in
set_option maxHeartbeats 4000000 in
theorem t_X4_passEvening_c34 (l : Launch) {κ27 : Nat → Int32 → XM → Option XM} {v0 : Nat} {v1 : Int32} {s0 : Int32} {M : XM} {q : XM} (hκ27 : ∀ (v0 : Nat) (v1 : Int32) (M : XM), κ27 v0 v1 M = some q → AW l m_X4_passEvening 4 0 0 (x_Rv q) 0 0 27 [some (.ref v0), some (.int v1), none] [] M) (H : f_X4_passEvening_c34 κ27 v0 v1 s0 M = some q) : AW l m_X4_passEvening 4 0 0 (x_Rv q) 0 0 37 [some (.ref v0), some (.int v1), none] [(.int s0)] M := by
  unfold f_X4_passEvening_c34 at H
  refine x_aload_n 37 0 dX4_passEvening_37 rfl rfl ?_
  obtain ⟨h8, H⟩ := x_ckp H
  refine x_getf 38 42 4 1 (.int (x_i M v0 1)) dX4_passEvening_38 lk_159 (by decide) (by decide) rfl (fun _ => rfl) h8 ?_
  refine x_icmp_ge 41 95 dX4_passEvening_41 (by decide) (fun c9 => ?_) (fun c9 => ?_)
  · replace H := x_ifp c9 H
    cases H
    exact x_vret 95 dX4_passEvening_95 rfl (Nat.le_of_ble_eq_true rfl) (Nat.le_of_ble_eq_true rfl) ⟨rfl, rfl⟩
  · replace H := x_ifn c9 H
    refine x_iconst 44 (0 : Int32) dX4_passEvening_44 (by decide) ?_
    refine x_istore_n 45 2 [some (.ref v0), some (.int v1), some (.int (0 : Int32))] dX4_passEvening_45 rfl rfl (Nat.le_of_ble_eq_true rfl) rfl ?_
    exact t_X4_passEvening_46 l hκ27 _ _ _ _ _ H

def bd_X4_passEvening_27 (κ27 : Nat → Int32 → XM → Option XM) (v0 : Nat) (v1 : Int32) (M : XM) : Option XM :=
  if (60 : Int32) ≤ v1 then (some M) else (if x_tag M v0 = 4 + 10 then (x_bd (f_X4_countThrough v0 M) (f_X4_passEvening_c34 κ27 v0 v1)) else none)
set_option maxRecDepth 20000 in
set_option maxHeartbeats 4000000 in
theorem tb_X4_passEvening_27 (l : Launch) {κ27 : Nat → Int32 → XM → Option XM} {v0 : Nat} {v1 : Int32} {M : XM} {q : XM} (hκ27 : ∀ (v0 : Nat) (v1 : Int32) (M : XM), κ27 v0 v1 M = some q → AW l m_X4_passEvening 4 0 0 (x_Rv q) 0 0 27 [some (.ref v0), some (.int v1), none] [] M) (H : bd_X4_passEvening_27 κ27 v0 v1 M = some q) : AW l m_X4_passEvening 4 0 0 (x_Rv q) 0 0 27 [some (.ref v0), some (.int v1), none] [] M := by
  unfold bd_X4_passEvening_27 at H
  refine x_iload_n 27 1 dX4_passEvening_27 rfl rfl ?_
  refine x_bipush 28 (60 : Int32) dX4_passEvening_28 (by decide) ?_
  refine x_icmp_ge 30 95 dX4_passEvening_30 (by decide) (fun c3 => ?_) (fun c3 => ?_)
  · replace H := x_ifp c3 H
    cases H
    exact x_vret 95 dX4_passEvening_95 rfl (Nat.le_of_ble_eq_true rfl) (Nat.le_of_ble_eq_true rfl) ⟨rfl, rfl⟩
  · replace H := x_ifn c3 H
    refine x_aload_n 33 0 dX4_passEvening_33 rfl rfl ?_
    obtain ⟨h4, H⟩ := x_ckp H
    obtain ⟨r6, M5, e7, H⟩ := x_bd_of H
    refine x_callV 34 78 4 [] [] dX4_passEvening_34 (ct_X4_countThrough l e7) lk_955 lk_956 lk_957 (by decide) h4 lk_86 lk_958 ⟨cn_X4_countThrough, (by decide), by decide⟩ rfl (Nat.le_of_ble_eq_true rfl) (Nat.le_of_ble_eq_true rfl) (Nat.le_of_ble_eq_true rfl) (x_ri ?_)
    exact t_X4_passEvening_c34 l hκ27 H

def lp_X4_passEvening_27 (n : Nat) : Nat → Int32 → XM → Option XM := x_rec (fun _ _ _ => none) (bd_X4_passEvening_27) n
theorem t_X4_passEvening_27 (l : Launch) {q : XM} : ∀ (n : Nat) (v0 : Nat) (v1 : Int32) (M : XM), lp_X4_passEvening_27 n v0 v1 M = some q → AW l m_X4_passEvening 4 0 0 (x_Rv q) 0 0 27 [some (.ref v0), some (.int v1), none] [] M := by
  intro n
  induction n with
  | zero => intro v0 v1 M H; cases H
  | succ n ih => intro v0 v1 M H; exact tb_X4_passEvening_27 l ih H
def f_X4_passEvening_c16 (κ2 : Nat → Int32 → XM → Option XM) (v0 : Nat) (v1 : Int32) (M : XM) : Option XM :=
  κ2 v0 (v1 + (1 : Int32)) M
set_option maxRecDepth 20000 in
set_option maxHeartbeats 4000000 in
theorem t_X4_passEvening_c16 (l : Launch) {κ2 : Nat → Int32 → XM → Option XM} {v0 : Nat} {v1 : Int32} {M : XM} {q : XM} (hκ2 : ∀ (v0 : Nat) (v1 : Int32) (M : XM), κ2 v0 v1 M = some q → AW l m_X4_passEvening 4 0 0 (x_Rv q) 0 0 2 [some (.ref v0), some (.int v1), none] [] M) (H : f_X4_passEvening_c16 κ2 v0 v1 M = some q) : AW l m_X4_passEvening 4 0 0 (x_Rv q) 0 0 19 [some (.ref v0), some (.int v1), none] [] M := by
  unfold f_X4_passEvening_c16 at H
  refine x_iinc 19 1 (v1 + (1 : Int32)) [some (.ref v0), some (.int (v1 + (1 : Int32))), none] dX4_passEvening_19 rfl (congrArg (fun z : Int32 => v1 + z) (show Int32.ofInt (1) = (1 : Int32) by decide)) rfl (Nat.le_of_ble_eq_true rfl) rfl ?_
  refine x_goto 22 2 dX4_passEvening_22 (by decide) ?_
  exact hκ2 _ _ _ H

def bd_X4_passEvening_2 (κ2 : Nat → Int32 → XM → Option XM) (v0 : Nat) (v1 : Int32) (M : XM) : Option XM :=
  if x_tag M v0 = 4 + 10 then (if (x_i M v0 1) ≤ v1 then (lp_X4_passEvening_27 x_fuel v0 (0 : Int32) M) else (if x_at M (x_r M v0 0) 3 v1 = true then (if x_tag M (x_r M (x_r M v0 0) v1.toNatClampNeg) = 2 + 10 then (x_bv (f_X2_beginAgain (x_r M (x_r M v0 0) v1.toNatClampNeg) M) (f_X4_passEvening_c16 κ2 v0 v1)) else none) else none)) else none
set_option maxRecDepth 20000 in
set_option maxHeartbeats 4000000 in
theorem tb_X4_passEvening_2 (l : Launch) {κ2 : Nat → Int32 → XM → Option XM} {v0 : Nat} {v1 : Int32} {M : XM} {q : XM} (hκ2 : ∀ (v0 : Nat) (v1 : Int32) (M : XM), κ2 v0 v1 M = some q → AW l m_X4_passEvening 4 0 0 (x_Rv q) 0 0 2 [some (.ref v0), some (.int v1), none] [] M) (H : bd_X4_passEvening_2 κ2 v0 v1 M = some q) : AW l m_X4_passEvening 4 0 0 (x_Rv q) 0 0 2 [some (.ref v0), some (.int v1), none] [] M := by
  unfold bd_X4_passEvening_2 at H
  refine x_iload_n 2 1 dX4_passEvening_2 rfl rfl ?_
  refine x_aload_n 3 0 dX4_passEvening_3 rfl rfl ?_
  obtain ⟨h1, H⟩ := x_ckp H
  refine x_getf 4 42 4 1 (.int (x_i M v0 1)) dX4_passEvening_4 lk_159 (by decide) (by decide) rfl (fun _ => rfl) h1 ?_
  refine x_icmp_ge 7 25 dX4_passEvening_7 (by decide) (fun c2 => ?_) (fun c2 => ?_)
  · replace H := x_ifp c2 H
    refine x_iconst 25 (0 : Int32) dX4_passEvening_25 (by decide) ?_
    refine x_istore_n 26 1 [some (.ref v0), some (.int (0 : Int32)), none] dX4_passEvening_26 rfl rfl (Nat.le_of_ble_eq_true rfl) rfl ?_
    exact t_X4_passEvening_27 l _ _ _ _ H
  · replace H := x_ifn c2 H
    refine x_aload_n 10 0 dX4_passEvening_10 rfl rfl ?_
    refine x_getf 11 11 4 0 (.ref (x_r M v0 0)) dX4_passEvening_11 lk_154 (by decide) (by decide) rfl (fun _ => rfl) h1 ?_
    refine x_iload_n 14 1 dX4_passEvening_14 rfl rfl ?_
    obtain ⟨h26, H⟩ := x_ckp H
    refine x_aald3 15 dX4_passEvening_15 h26 ?_
    obtain ⟨h27, H⟩ := x_ckp H
    obtain ⟨M28, e30, H⟩ := x_bv_of H
    refine x_callV 16 75 2 [] [] dX4_passEvening_16 (ct_X2_beginAgain l e30) lk_954 lk_534 lk_535 (by decide) h27 lk_87 lk_536 ⟨cn_X2_beginAgain, (by decide), by decide⟩ rfl (Nat.le_of_ble_eq_true rfl) (Nat.le_of_ble_eq_true rfl) (Nat.le_of_ble_eq_true rfl) (x_rv ?_)
    exact t_X4_passEvening_c16 l hκ2 H

def lp_X4_passEvening_2 (n : Nat) : Nat → Int32 → XM → Option XM := x_rec (fun _ _ _ => none) (bd_X4_passEvening_2) n
theorem t_X4_passEvening_2 (l : Launch) {q : XM} : ∀ (n : Nat) (v0 : Nat) (v1 : Int32) (M : XM), lp_X4_passEvening_2 n v0 v1 M = some q → AW l m_X4_passEvening 4 0 0 (x_Rv q) 0 0 2 [some (.ref v0), some (.int v1), none] [] M := by
  intro n
  induction n with
  | zero => intro v0 v1 M H; cases H
  | succ n ih => intro v0 v1 M H; exact tb_X4_passEvening_2 l ih H
def f_X4_passEvening (v0 : Nat) (M : XM) : Option XM :=
  lp_X4_passEvening_2 x_fuel v0 (0 : Int32) M
set_option maxRecDepth 20000 in
set_option maxHeartbeats 4000000 in
theorem t_X4_passEvening (l : Launch) {v0 : Nat} {M : XM} {q : XM} (H : f_X4_passEvening v0 M = some q) : AW l m_X4_passEvening 4 0 0 (x_Rv q) 0 0 0 [some (.ref v0), none, none] [] M := by
  unfold f_X4_passEvening at H
  refine x_iconst 0 (0 : Int32) dX4_passEvening_0 (by decide) ?_
  refine x_istore_n 1 1 [some (.ref v0), some (.int (0 : Int32)), none] dX4_passEvening_1 rfl rfl (Nat.le_of_ble_eq_true rfl) rfl ?_
  exact t_X4_passEvening_2 l _ _ _ _ H

theorem ct_X4_passEvening (l : Launch) {v0 : Nat} {M : XM} {q : XM} (H : f_X4_passEvening v0 M = some q) : Ct l m_X4_passEvening 4 0 0 [(.ref v0)] M (x_Rv q) := x_met l m_X4_passEvening 4 0 0 [(.ref v0)] M (x_Rv q) _ rfl rfl (Nat.le_of_ble_eq_true rfl) (t_X4_passEvening l H)
abbrev m_X4_countAlike : XU := (yX4_countAlike, cX4_countAlike, 4, (some .int))
theorem cn_X4_countAlike : m_X4_countAlike.1.cls ≠ "java/lang/invoke/MethodHandle" ∧ m_X4_countAlike.1.cls ≠ "java/lang/invoke/VarHandle" ∧ (parseMethodDescriptor m_X4_countAlike.1.desc).map (fun q => q.parameters.length) = some 1 := by decide +kernel
def f_X4_countAlike_25 (κ4 : Nat → Int32 → Int32 → Int32 → XM → Option (Int32 × XM)) (v0 : Nat) (v1 : Int32) (v2 : Int32) (v3 : Int32) (M : XM) : Option (Int32 × XM) :=
  κ4 v0 v1 v2 (v3 + (1 : Int32)) M
set_option maxRecDepth 20000 in
set_option maxHeartbeats 4000000 in
theorem t_X4_countAlike_25 (l : Launch) {κ4 : Nat → Int32 → Int32 → Int32 → XM → Option (Int32 × XM)} {v0 : Nat} {v1 : Int32} {v2 : Int32} {v3 : Int32} {M : XM} {q : Int32 × XM} (hκ4 : ∀ (v0 : Nat) (v1 : Int32) (v2 : Int32) (v3 : Int32) (M : XM), κ4 v0 v1 v2 v3 M = some q → AW l m_X4_countAlike 1 0 0 (x_Ri q) 0 0 4 [some (.ref v0), some (.int v1), some (.int v2), some (.int v3)] [] M) (H : f_X4_countAlike_25 κ4 v0 v1 v2 v3 M = some q) : AW l m_X4_countAlike 1 0 0 (x_Ri q) 0 0 25 [some (.ref v0), some (.int v1), some (.int v2), some (.int v3)] [] M := by
  unfold f_X4_countAlike_25 at H
  refine x_iinc 25 3 (v3 + (1 : Int32)) [some (.ref v0), some (.int v1), some (.int v2), some (.int (v3 + (1 : Int32)))] dX4_countAlike_25 rfl (congrArg (fun z : Int32 => v3 + z) (show Int32.ofInt (1) = (1 : Int32) by decide)) rfl (Nat.le_of_ble_eq_true rfl) rfl ?_
  refine x_goto 28 4 dX4_countAlike_28 (by decide) ?_
  exact hκ4 _ _ _ _ _ H

def bd_X4_countAlike_4 (κ4 : Nat → Int32 → Int32 → Int32 → XM → Option (Int32 × XM)) (v0 : Nat) (v1 : Int32) (v2 : Int32) (v3 : Int32) (M : XM) : Option (Int32 × XM) :=
  if x_tag M v0 = 4 + 10 then (if (x_i M v0 7) ≤ v3 then (some (v2, M)) else (if x_at M (x_r M v0 6) 1 v3 = true then (if (x_i M (x_r M v0 6) v3.toNatClampNeg) = v1 then (f_X4_countAlike_25 κ4 v0 v1 (v2 + (1 : Int32)) v3 M) else (f_X4_countAlike_25 κ4 v0 v1 v2 v3 M)) else none)) else none
set_option maxRecDepth 20000 in
set_option maxHeartbeats 4000000 in
theorem tb_X4_countAlike_4 (l : Launch) {κ4 : Nat → Int32 → Int32 → Int32 → XM → Option (Int32 × XM)} {v0 : Nat} {v1 : Int32} {v2 : Int32} {v3 : Int32} {M : XM} {q : Int32 × XM} (hκ4 : ∀ (v0 : Nat) (v1 : Int32) (v2 : Int32) (v3 : Int32) (M : XM), κ4 v0 v1 v2 v3 M = some q → AW l m_X4_countAlike 1 0 0 (x_Ri q) 0 0 4 [some (.ref v0), some (.int v1), some (.int v2), some (.int v3)] [] M) (H : bd_X4_countAlike_4 κ4 v0 v1 v2 v3 M = some q) : AW l m_X4_countAlike 1 0 0 (x_Ri q) 0 0 4 [some (.ref v0), some (.int v1), some (.int v2), some (.int v3)] [] M := by
  unfold bd_X4_countAlike_4 at H
  refine x_iload_n 4 3 dX4_countAlike_4 rfl rfl ?_
  refine x_aload_n 5 0 dX4_countAlike_5 rfl rfl ?_
  obtain ⟨h1, H⟩ := x_ckp H
  refine x_getf 6 45 4 7 (.int (x_i M v0 7)) dX4_countAlike_6 lk_179 (by decide) (by decide) rfl (fun _ => rfl) h1 ?_
  refine x_icmp_ge 9 31 dX4_countAlike_9 (by decide) (fun c2 => ?_) (fun c2 => ?_)
  · replace H := x_ifp c2 H
    refine x_iload_n 31 2 dX4_countAlike_31 rfl rfl ?_
    cases H
    exact x_iret 32 dX4_countAlike_32 .int rfl rfl (Nat.le_of_ble_eq_true rfl) (Nat.le_of_ble_eq_true rfl) ⟨rfl, rfl⟩
  · replace H := x_ifn c2 H
    refine x_aload_n 12 0 dX4_countAlike_12 rfl rfl ?_
    refine x_getf 13 30 4 6 (.ref (x_r M v0 6)) dX4_countAlike_13 lk_177 (by decide) (by decide) rfl (fun _ => rfl) h1 ?_
    refine x_iload_n 16 3 dX4_countAlike_16 rfl rfl ?_
    obtain ⟨h3, H⟩ := x_ckp H
    refine x_iald 17 dX4_countAlike_17 h3 ?_
    refine x_iload_n 18 1 dX4_countAlike_18 rfl rfl ?_
    refine x_icmp_ne 19 25 dX4_countAlike_19 (by decide) (fun c4 => ?_) (fun c4 => ?_)
    · replace H := x_ifn c4 H
      exact t_X4_countAlike_25 l hκ4 H
    · replace H := x_ifp c4 H
      refine x_iinc 22 2 (v2 + (1 : Int32)) [some (.ref v0), some (.int v1), some (.int (v2 + (1 : Int32))), some (.int v3)] dX4_countAlike_22 rfl (congrArg (fun z : Int32 => v2 + z) (show Int32.ofInt (1) = (1 : Int32) by decide)) rfl (Nat.le_of_ble_eq_true rfl) rfl ?_
      exact t_X4_countAlike_25 l hκ4 H

def lp_X4_countAlike_4 (n : Nat) : Nat → Int32 → Int32 → Int32 → XM → Option (Int32 × XM) := x_rec (fun _ _ _ _ _ => none) (bd_X4_countAlike_4) n
theorem t_X4_countAlike_4 (l : Launch) {q : Int32 × XM} : ∀ (n : Nat) (v0 : Nat) (v1 : Int32) (v2 : Int32) (v3 : Int32) (M : XM), lp_X4_countAlike_4 n v0 v1 v2 v3 M = some q → AW l m_X4_countAlike 1 0 0 (x_Ri q) 0 0 4 [some (.ref v0), some (.int v1), some (.int v2), some (.int v3)] [] M := by
  intro n
  induction n with
  | zero => intro v0 v1 v2 v3 M H; cases H
  | succ n ih => intro v0 v1 v2 v3 M H; exact tb_X4_countAlike_4 l ih H
def f_X4_countAlike (v0 : Nat) (v1 : Int32) (M : XM) : Option (Int32 × XM) :=
  lp_X4_countAlike_4 x_fuel v0 v1 (0 : Int32) (0 : Int32) M
set_option maxRecDepth 20000 in
set_option maxHeartbeats 4000000 in
theorem t_X4_countAlike (l : Launch) {v0 : Nat} {v1 : Int32} {M : XM} {q : Int32 × XM} (H : f_X4_countAlike v0 v1 M = some q) : AW l m_X4_countAlike 1 0 0 (x_Ri q) 0 0 0 [some (.ref v0), some (.int v1), none, none] [] M := by
  unfold f_X4_countAlike at H
  refine x_iconst 0 (0 : Int32) dX4_countAlike_0 (by decide) ?_
  refine x_istore_n 1 2 [some (.ref v0), some (.int v1), some (.int (0 : Int32)), none] dX4_countAlike_1 rfl rfl (Nat.le_of_ble_eq_true rfl) rfl ?_
  refine x_iconst 2 (0 : Int32) dX4_countAlike_2 (by decide) ?_
  refine x_istore_n 3 3 [some (.ref v0), some (.int v1), some (.int (0 : Int32)), some (.int (0 : Int32))] dX4_countAlike_3 rfl rfl (Nat.le_of_ble_eq_true rfl) rfl ?_
  exact t_X4_countAlike_4 l _ _ _ _ _ _ H

theorem ct_X4_countAlike (l : Launch) {v0 : Nat} {v1 : Int32} {M : XM} {q : Int32 × XM} (H : f_X4_countAlike v0 v1 M = some q) : Ct l m_X4_countAlike 1 0 0 [(.ref v0), (.int v1)] M (x_Ri q) := x_met l m_X4_countAlike 1 0 0 [(.ref v0), (.int v1)] M (x_Ri q) _ rfl rfl (Nat.le_of_ble_eq_true rfl) (t_X4_countAlike l H)
theorem lk_918 : Cond.code yX4_countAlike cX4_countAlike 4 (some .int) ∈ x_TB := x_tb (k := 918) (by decide +kernel) rfl
theorem lk_915 : Cond.methodLink RX4 90 yX4_countAlike ∈ x_TB := x_tb (k := 915) (by decide +kernel) rfl
theorem lk_29 : Cond.selects RX4 yX4_countAlike yX4_countAlike ∈ x_TB := x_tb (k := 29) (by decide +kernel) rfl
theorem lk_917 : Cond.instanceMethod yX4_countAlike ∈ x_TB := x_tb (k := 917) (by decide +kernel) rfl
abbrev m_X4_leastTrue : XU := (yX4_leastTrue, cX4_leastTrue, 5, (some .int))
theorem cn_X4_leastTrue : m_X4_leastTrue.1.cls ≠ "java/lang/invoke/MethodHandle" ∧ m_X4_leastTrue.1.cls ≠ "java/lang/invoke/VarHandle" ∧ (parseMethodDescriptor m_X4_leastTrue.1.desc).map (fun q => q.parameters.length) = some 0 := by decide +kernel
def f_X4_leastTrue_57 (κ4 : Nat → Int32 → Int32 → XM → Option (Int32 × XM)) (v0 : Nat) (v1 : Int32) (v2 : Int32) (M : XM) : Option (Int32 × XM) :=
  κ4 v0 v1 (v2 + (1 : Int32)) M
set_option maxRecDepth 20000 in
set_option maxHeartbeats 4000000 in
theorem t_X4_leastTrue_57 (l : Launch) {κ4 : Nat → Int32 → Int32 → XM → Option (Int32 × XM)} {v0 : Nat} {v1 : Int32} {v2 : Int32} {M : XM} {q : Int32 × XM} (hκ4 : ∀ (v0 : Nat) (v1 : Int32) (v2 : Int32) (M : XM), κ4 v0 v1 v2 M = some q → AW l m_X4_leastTrue 2 0 0 (x_Ri q) 0 0 4 [some (.ref v0), some (.int v1), some (.int v2), none, none] [] M) (H : f_X4_leastTrue_57 κ4 v0 v1 v2 M = some q) : AW l m_X4_leastTrue 2 0 0 (x_Ri q) 0 0 57 [some (.ref v0), some (.int v1), some (.int v2), none, none] [] M := by
  unfold f_X4_leastTrue_57 at H
  refine x_iinc 57 2 (v2 + (1 : Int32)) [some (.ref v0), some (.int v1), some (.int (v2 + (1 : Int32))), none, none] dX4_leastTrue_57 rfl (congrArg (fun z : Int32 => v2 + z) (show Int32.ofInt (1) = (1 : Int32) by decide)) rfl (Nat.le_of_ble_eq_true rfl) rfl ?_
  refine x_goto 60 4 dX4_leastTrue_60 (by decide) ?_
  exact hκ4 _ _ _ _ H

def f_X4_leastTrue_55 (κ4 : Nat → Int32 → Int32 → XM → Option (Int32 × XM)) (v0 : Nat) (v2 : Int32) (v3 : Int32) (M : XM) : Option (Int32 × XM) :=
  f_X4_leastTrue_57 κ4 v0 v3 v2 M
set_option maxRecDepth 20000 in
set_option maxHeartbeats 4000000 in
theorem t_X4_leastTrue_55 (l : Launch) {κ4 : Nat → Int32 → Int32 → XM → Option (Int32 × XM)} {v0 : Nat} {v2 : Int32} {v3 : Int32} {M : XM} {q : Int32 × XM} (hκ4 : ∀ (v0 : Nat) (v1 : Int32) (v2 : Int32) (M : XM), κ4 v0 v1 v2 M = some q → AW l m_X4_leastTrue 2 0 0 (x_Ri q) 0 0 4 [some (.ref v0), some (.int v1), some (.int v2), none, none] [] M) (H : f_X4_leastTrue_55 κ4 v0 v2 v3 M = some q) : AW l m_X4_leastTrue 2 0 0 (x_Ri q) 0 0 55 [some (.ref v0), none, some (.int v2), some (.int v3), none] [] M := by
  unfold f_X4_leastTrue_55 at H
  refine x_iload_n 55 3 dX4_leastTrue_55 rfl rfl ?_
  refine x_istore_n 56 1 [some (.ref v0), some (.int v3), some (.int v2), some (.int v3), none] dX4_leastTrue_56 rfl rfl (Nat.le_of_ble_eq_true rfl) rfl ?_
  exact x_wk (le_s (le_s (le_s (le_n (le_s le_0))))) (t_X4_leastTrue_57 l hκ4 H)

def f_X4_leastTrue_38 (κ4 : Nat → Int32 → Int32 → XM → Option (Int32 × XM)) (v0 : Nat) (v1 : Int32) (v2 : Int32) (v3 : Int32) (s0 : Int32) (M : XM) : Option (Int32 × XM) :=
  if s0 = 0 then (f_X4_leastTrue_57 κ4 v0 v1 v2 M) else (if v1 = (-1 : Int32) then (f_X4_leastTrue_55 κ4 v0 v2 v3 M) else (if v1 ≤ v3 then (f_X4_leastTrue_57 κ4 v0 v1 v2 M) else (f_X4_leastTrue_55 κ4 v0 v2 v3 M)))
set_option maxRecDepth 20000 in
set_option maxHeartbeats 4000000 in
theorem t_X4_leastTrue_38 (l : Launch) {κ4 : Nat → Int32 → Int32 → XM → Option (Int32 × XM)} {v0 : Nat} {v1 : Int32} {v2 : Int32} {v3 : Int32} {s0 : Int32} {M : XM} {q : Int32 × XM} (hκ4 : ∀ (v0 : Nat) (v1 : Int32) (v2 : Int32) (M : XM), κ4 v0 v1 v2 M = some q → AW l m_X4_leastTrue 2 0 0 (x_Ri q) 0 0 4 [some (.ref v0), some (.int v1), some (.int v2), none, none] [] M) (H : f_X4_leastTrue_38 κ4 v0 v1 v2 v3 s0 M = some q) : AW l m_X4_leastTrue 2 0 0 (x_Ri q) 0 0 38 [some (.ref v0), some (.int v1), some (.int v2), some (.int v3), none] [(.int s0)] M := by
  unfold f_X4_leastTrue_38 at H
  refine x_istore 38 4 [some (.ref v0), some (.int v1), some (.int v2), some (.int v3), some (.int s0)] dX4_leastTrue_38 rfl (Nat.le_of_ble_eq_true rfl) rfl ?_
  refine x_iload 40 4 dX4_leastTrue_40 rfl ?_
  refine x_if_eq 42 57 dX4_leastTrue_42 (by decide) (fun c9 => ?_) (fun c9 => ?_)
  · replace H := x_ifp c9 H
    exact x_wk (le_s (le_s (le_s (le_n (le_n le_0))))) (t_X4_leastTrue_57 l hκ4 H)
  · replace H := x_ifn c9 H
    refine x_iload_n 45 1 dX4_leastTrue_45 rfl rfl ?_
    refine x_iconst 46 (-1 : Int32) dX4_leastTrue_46 (by decide) ?_
    refine x_icmp_eq 47 55 dX4_leastTrue_47 (by decide) (fun c10 => ?_) (fun c10 => ?_)
    · replace H := x_ifp c10 H
      exact x_wk (le_s (le_n (le_s (le_s (le_n le_0))))) (t_X4_leastTrue_55 l hκ4 H)
    · replace H := x_ifn c10 H
      refine x_iload_n 50 3 dX4_leastTrue_50 rfl rfl ?_
      refine x_iload_n 51 1 dX4_leastTrue_51 rfl rfl ?_
      refine x_icmp_ge 52 57 dX4_leastTrue_52 (by decide) (fun c11 => ?_) (fun c11 => ?_)
      · replace H := x_ifp c11 H
        exact x_wk (le_s (le_s (le_s (le_n (le_n le_0))))) (t_X4_leastTrue_57 l hκ4 H)
      · replace H := x_ifn c11 H
        exact x_wk (le_s (le_n (le_s (le_s (le_n le_0))))) (t_X4_leastTrue_55 l hκ4 H)

def f_X4_leastTrue_c21 (κ4 : Nat → Int32 → Int32 → XM → Option (Int32 × XM)) (v0 : Nat) (v1 : Int32) (v2 : Int32) (v3 : Int32) (s0 : Int32) (M : XM) : Option (Int32 × XM) :=
  if x_tag M v0 = 4 + 10 then (if s0 < ((x_i M v0 7) - (1 : Int32)) then (f_X4_leastTrue_38 κ4 v0 v1 v2 v3 (0 : Int32) M) else (f_X4_leastTrue_38 κ4 v0 v1 v2 v3 (1 : Int32) M)) else none
set_option maxRecDepth 20000 in
set_option maxHeartbeats 4000000 in
theorem t_X4_leastTrue_c21 (l : Launch) {κ4 : Nat → Int32 → Int32 → XM → Option (Int32 × XM)} {v0 : Nat} {v1 : Int32} {v2 : Int32} {v3 : Int32} {s0 : Int32} {M : XM} {q : Int32 × XM} (hκ4 : ∀ (v0 : Nat) (v1 : Int32) (v2 : Int32) (M : XM), κ4 v0 v1 v2 M = some q → AW l m_X4_leastTrue 2 0 0 (x_Ri q) 0 0 4 [some (.ref v0), some (.int v1), some (.int v2), none, none] [] M) (H : f_X4_leastTrue_c21 κ4 v0 v1 v2 v3 s0 M = some q) : AW l m_X4_leastTrue 2 0 0 (x_Ri q) 0 0 24 [some (.ref v0), some (.int v1), some (.int v2), some (.int v3), none] [(.int s0)] M := by
  unfold f_X4_leastTrue_c21 at H
  refine x_aload_n 24 0 dX4_leastTrue_24 rfl rfl ?_
  obtain ⟨h7, H⟩ := x_ckp H
  refine x_getf 25 45 4 7 (.int (x_i M v0 7)) dX4_leastTrue_25 lk_179 (by decide) (by decide) rfl (fun _ => rfl) h7 ?_
  refine x_iconst 28 (1 : Int32) dX4_leastTrue_28 (by decide) ?_
  refine x_isub 29 dX4_leastTrue_29 ?_
  refine x_icmp_lt 30 37 dX4_leastTrue_30 (by decide) (fun c8 => ?_) (fun c8 => ?_)
  · replace H := x_ifp c8 H
    refine x_iconst 37 (0 : Int32) dX4_leastTrue_37 (by decide) ?_
    exact t_X4_leastTrue_38 l hκ4 H
  · replace H := x_ifn c8 H
    refine x_iconst 33 (1 : Int32) dX4_leastTrue_33 (by decide) ?_
    refine x_goto 34 38 dX4_leastTrue_34 (by decide) ?_
    exact t_X4_leastTrue_38 l hκ4 H

def bd_X4_leastTrue_4 (κ4 : Nat → Int32 → Int32 → XM → Option (Int32 × XM)) (v0 : Nat) (v1 : Int32) (v2 : Int32) (M : XM) : Option (Int32 × XM) :=
  if x_tag M v0 = 4 + 10 then (if (x_i M v0 7) ≤ v2 then (some (v1, M)) else (if x_at M (x_r M v0 6) 1 v2 = true then (x_bd (f_X4_countAlike v0 (x_i M (x_r M v0 6) v2.toNatClampNeg) M) (f_X4_leastTrue_c21 κ4 v0 v1 v2 (x_i M (x_r M v0 6) v2.toNatClampNeg))) else none)) else none
set_option maxRecDepth 20000 in
set_option maxHeartbeats 4000000 in
theorem tb_X4_leastTrue_4 (l : Launch) {κ4 : Nat → Int32 → Int32 → XM → Option (Int32 × XM)} {v0 : Nat} {v1 : Int32} {v2 : Int32} {M : XM} {q : Int32 × XM} (hκ4 : ∀ (v0 : Nat) (v1 : Int32) (v2 : Int32) (M : XM), κ4 v0 v1 v2 M = some q → AW l m_X4_leastTrue 2 0 0 (x_Ri q) 0 0 4 [some (.ref v0), some (.int v1), some (.int v2), none, none] [] M) (H : bd_X4_leastTrue_4 κ4 v0 v1 v2 M = some q) : AW l m_X4_leastTrue 2 0 0 (x_Ri q) 0 0 4 [some (.ref v0), some (.int v1), some (.int v2), none, none] [] M := by
  unfold bd_X4_leastTrue_4 at H
  refine x_iload_n 4 2 dX4_leastTrue_4 rfl rfl ?_
  refine x_aload_n 5 0 dX4_leastTrue_5 rfl rfl ?_
  obtain ⟨h1, H⟩ := x_ckp H
  refine x_getf 6 45 4 7 (.int (x_i M v0 7)) dX4_leastTrue_6 lk_179 (by decide) (by decide) rfl (fun _ => rfl) h1 ?_
  refine x_icmp_ge 9 63 dX4_leastTrue_9 (by decide) (fun c2 => ?_) (fun c2 => ?_)
  · replace H := x_ifp c2 H
    refine x_iload_n 63 1 dX4_leastTrue_63 rfl rfl ?_
    cases H
    exact x_iret 64 dX4_leastTrue_64 .int rfl rfl (Nat.le_of_ble_eq_true rfl) (Nat.le_of_ble_eq_true rfl) ⟨rfl, rfl⟩
  · replace H := x_ifn c2 H
    refine x_aload_n 12 0 dX4_leastTrue_12 rfl rfl ?_
    refine x_getf 13 30 4 6 (.ref (x_r M v0 6)) dX4_leastTrue_13 lk_177 (by decide) (by decide) rfl (fun _ => rfl) h1 ?_
    refine x_iload_n 16 2 dX4_leastTrue_16 rfl rfl ?_
    obtain ⟨h3, H⟩ := x_ckp H
    refine x_iald 17 dX4_leastTrue_17 h3 ?_
    refine x_istore_n 18 3 [some (.ref v0), some (.int v1), some (.int v2), some (.int (x_i M (x_r M v0 6) v2.toNatClampNeg)), none] dX4_leastTrue_18 rfl rfl (Nat.le_of_ble_eq_true rfl) rfl ?_
    refine x_aload_n 19 0 dX4_leastTrue_19 rfl rfl ?_
    refine x_iload_n 20 3 dX4_leastTrue_20 rfl rfl ?_
    obtain ⟨r5, M4, e6, H⟩ := x_bd_of H
    refine x_callV 21 90 4 [(.int (x_i M (x_r M v0 6) v2.toNatClampNeg))] [] dX4_leastTrue_21 (ct_X4_countAlike l e6) lk_915 lk_917 lk_29 (by decide) h1 lk_86 lk_918 ⟨cn_X4_countAlike, (by decide), by decide⟩ rfl (Nat.le_of_ble_eq_true rfl) (Nat.le_of_ble_eq_true rfl) (Nat.le_of_ble_eq_true rfl) (x_ri ?_)
    exact t_X4_leastTrue_c21 l hκ4 H

def lp_X4_leastTrue_4 (n : Nat) : Nat → Int32 → Int32 → XM → Option (Int32 × XM) := x_rec (fun _ _ _ _ => none) (bd_X4_leastTrue_4) n
theorem t_X4_leastTrue_4 (l : Launch) {q : Int32 × XM} : ∀ (n : Nat) (v0 : Nat) (v1 : Int32) (v2 : Int32) (M : XM), lp_X4_leastTrue_4 n v0 v1 v2 M = some q → AW l m_X4_leastTrue 2 0 0 (x_Ri q) 0 0 4 [some (.ref v0), some (.int v1), some (.int v2), none, none] [] M := by
  intro n
  induction n with
  | zero => intro v0 v1 v2 M H; cases H
  | succ n ih => intro v0 v1 v2 M H; exact tb_X4_leastTrue_4 l ih H
def f_X4_leastTrue (v0 : Nat) (M : XM) : Option (Int32 × XM) :=
  lp_X4_leastTrue_4 x_fuel v0 (-1 : Int32) (0 : Int32) M
set_option maxRecDepth 20000 in
set_option maxHeartbeats 4000000 in
theorem t_X4_leastTrue (l : Launch) {v0 : Nat} {M : XM} {q : Int32 × XM} (H : f_X4_leastTrue v0 M = some q) : AW l m_X4_leastTrue 2 0 0 (x_Ri q) 0 0 0 [some (.ref v0), none, none, none, none] [] M := by
  unfold f_X4_leastTrue at H
  refine x_iconst 0 (-1 : Int32) dX4_leastTrue_0 (by decide) ?_
  refine x_istore_n 1 1 [some (.ref v0), some (.int (-1 : Int32)), none, none, none] dX4_leastTrue_1 rfl rfl (Nat.le_of_ble_eq_true rfl) rfl ?_
  refine x_iconst 2 (0 : Int32) dX4_leastTrue_2 (by decide) ?_
  refine x_istore_n 3 2 [some (.ref v0), some (.int (-1 : Int32)), some (.int (0 : Int32)), none, none] dX4_leastTrue_3 rfl rfl (Nat.le_of_ble_eq_true rfl) rfl ?_
  exact t_X4_leastTrue_4 l _ _ _ _ _ H

theorem ct_X4_leastTrue (l : Launch) {v0 : Nat} {M : XM} {q : Int32 × XM} (H : f_X4_leastTrue v0 M = some q) : Ct l m_X4_leastTrue 2 0 0 [(.ref v0)] M (x_Ri q) := x_met l m_X4_leastTrue 2 0 0 [(.ref v0)] M (x_Ri q) _ rfl rfl (Nat.le_of_ble_eq_true rfl) (t_X4_leastTrue l H)
