abbrev m_X9_quickest : XU := (yX9_quickest, cX9_quickest, 8, (some .int))
theorem cn_X9_quickest : m_X9_quickest.1.cls ≠ "java/lang/invoke/MethodHandle" ∧ m_X9_quickest.1.cls ≠ "java/lang/invoke/VarHandle" ∧ (parseMethodDescriptor m_X9_quickest.1.desc).map (fun q => q.parameters.length) = some 2 := by decide +kernel
def f_X9_quickest_93 (κ50 : Nat → Int32 → Int32 → Int32 → Int32 → Int32 → XM → Option (Int32 × XM)) (v0 : Nat) (v1 : Int32) (v2 : Int32) (v4 : Int32) (v5 : Int32) (v6 : Int32) (M : XM) : Option (Int32 × XM) :=
  κ50 v0 v1 v2 v4 v5 (v6 + (1 : Int32)) M
set_option maxRecDepth 20000 in
set_option maxHeartbeats 4000000 in
theorem t_X9_quickest_93 (l : Launch) {κ50 : Nat → Int32 → Int32 → Int32 → Int32 → Int32 → XM → Option (Int32 × XM)} {v0 : Nat} {v1 : Int32} {v2 : Int32} {v4 : Int32} {v5 : Int32} {v6 : Int32} {M : XM} {q : Int32 × XM} (hκ50 : ∀ (v0 : Nat) (v1 : Int32) (v2 : Int32) (v4 : Int32) (v5 : Int32) (v6 : Int32) (M : XM), κ50 v0 v1 v2 v4 v5 v6 M = some q → AW l m_X9_quickest 4 0 0 (x_Ri q) 0 0 50 [some (.ref v0), some (.int v1), some (.int v2), none, some (.int v4), some (.int v5), some (.int v6), none] [] M) (H : f_X9_quickest_93 κ50 v0 v1 v2 v4 v5 v6 M = some q) : AW l m_X9_quickest 4 0 0 (x_Ri q) 0 0 93 [some (.ref v0), some (.int v1), some (.int v2), none, some (.int v4), some (.int v5), some (.int v6), none] [] M := by
  unfold f_X9_quickest_93 at H
  refine x_iinc 93 6 (v6 + (1 : Int32)) [some (.ref v0), some (.int v1), some (.int v2), none, some (.int v4), some (.int v5), some (.int (v6 + (1 : Int32))), none] dX9_quickest_93 rfl (congrArg (fun z : Int32 => v6 + z) (show Int32.ofInt (1) = (1 : Int32) by decide)) rfl (Nat.le_of_ble_eq_true rfl) rfl ?_
  refine x_goto 96 50 dX9_quickest_96 (by decide) ?_
  exact hκ50 _ _ _ _ _ _ _ H

def f_X9_quickest_c64 (κ50 : Nat → Int32 → Int32 → Int32 → Int32 → Int32 → XM → Option (Int32 × XM)) (v0 : Nat) (v1 : Int32) (v2 : Int32) (v4 : Int32) (v5 : Int32) (v6 : Int32) (s0 : Int32) (M : XM) : Option (Int32 × XM) :=
  if s0 = (-1 : Int32) then (f_X9_quickest_93 κ50 v0 v1 v2 v4 v5 v6 M) else (if s0 < v5 then (f_X9_quickest_93 κ50 v0 v1 v2 v6 s0 v6 M) else (f_X9_quickest_93 κ50 v0 v1 v2 v4 v5 v6 M))
set_option maxRecDepth 20000 in
set_option maxHeartbeats 4000000 in
theorem t_X9_quickest_c64 (l : Launch) {κ50 : Nat → Int32 → Int32 → Int32 → Int32 → Int32 → XM → Option (Int32 × XM)} {v0 : Nat} {v1 : Int32} {v2 : Int32} {v4 : Int32} {v5 : Int32} {v6 : Int32} {s0 : Int32} {M : XM} {q : Int32 × XM} (hκ50 : ∀ (v0 : Nat) (v1 : Int32) (v2 : Int32) (v4 : Int32) (v5 : Int32) (v6 : Int32) (M : XM), κ50 v0 v1 v2 v4 v5 v6 M = some q → AW l m_X9_quickest 4 0 0 (x_Ri q) 0 0 50 [some (.ref v0), some (.int v1), some (.int v2), none, some (.int v4), some (.int v5), some (.int v6), none] [] M) (H : f_X9_quickest_c64 κ50 v0 v1 v2 v4 v5 v6 s0 M = some q) : AW l m_X9_quickest 4 0 0 (x_Ri q) 0 0 67 [some (.ref v0), some (.int v1), some (.int v2), none, some (.int v4), some (.int v5), some (.int v6), none] [(.int s0)] M := by
  unfold f_X9_quickest_c64 at H
  refine x_istore 67 7 [some (.ref v0), some (.int v1), some (.int v2), none, some (.int v4), some (.int v5), some (.int v6), some (.int s0)] dX9_quickest_67 rfl (Nat.le_of_ble_eq_true rfl) rfl ?_
  refine x_iload 69 7 dX9_quickest_69 rfl ?_
  refine x_iconst 71 (-1 : Int32) dX9_quickest_71 (by decide) ?_
  refine x_icmp_eq 72 93 dX9_quickest_72 (by decide) (fun c13 => ?_) (fun c13 => ?_)
  · replace H := x_ifp c13 H
    exact x_wk (le_s (le_s (le_s (le_s (le_s (le_s (le_s (le_n le_0)))))))) (t_X9_quickest_93 l hκ50 H)
  · replace H := x_ifn c13 H
    refine x_iload 75 7 dX9_quickest_75 rfl ?_
    refine x_iload 77 5 dX9_quickest_77 rfl ?_
    refine x_icmp_lt 79 85 dX9_quickest_79 (by decide) (fun c14 => ?_) (fun c14 => ?_)
    · replace H := x_ifp c14 H
      refine x_iload 85 6 dX9_quickest_85 rfl ?_
      refine x_istore 87 4 [some (.ref v0), some (.int v1), some (.int v2), none, some (.int v6), some (.int v5), some (.int v6), some (.int s0)] dX9_quickest_87 rfl (Nat.le_of_ble_eq_true rfl) rfl ?_
      refine x_iload 89 7 dX9_quickest_89 rfl ?_
      refine x_istore 91 5 [some (.ref v0), some (.int v1), some (.int v2), none, some (.int v6), some (.int s0), some (.int v6), some (.int s0)] dX9_quickest_91 rfl (Nat.le_of_ble_eq_true rfl) rfl ?_
      exact x_wk (le_s (le_s (le_s (le_s (le_s (le_s (le_s (le_n le_0)))))))) (t_X9_quickest_93 l hκ50 H)
    · replace H := x_ifn c14 H
      refine x_goto 82 93 dX9_quickest_82 (by decide) ?_
      exact x_wk (le_s (le_s (le_s (le_s (le_s (le_s (le_s (le_n le_0)))))))) (t_X9_quickest_93 l hκ50 H)

def bd_X9_quickest_50 (κ50 : Nat → Int32 → Int32 → Int32 → Int32 → Int32 → XM → Option (Int32 × XM)) (v0 : Nat) (v1 : Int32) (v2 : Int32) (v4 : Int32) (v5 : Int32) (v6 : Int32) (M : XM) : Option (Int32 × XM) :=
  if x_tag M v0 = 9 + 10 then (if (x_i M v0 0) ≤ v6 then (some (v4, M)) else (x_bd (f_X9_throughBy v0 v6 v1 v2 M) (f_X9_quickest_c64 κ50 v0 v1 v2 v4 v5 v6))) else none
set_option maxRecDepth 20000 in
set_option maxHeartbeats 4000000 in
theorem tb_X9_quickest_50 (l : Launch) {κ50 : Nat → Int32 → Int32 → Int32 → Int32 → Int32 → XM → Option (Int32 × XM)} {v0 : Nat} {v1 : Int32} {v2 : Int32} {v4 : Int32} {v5 : Int32} {v6 : Int32} {M : XM} {q : Int32 × XM} (hκ50 : ∀ (v0 : Nat) (v1 : Int32) (v2 : Int32) (v4 : Int32) (v5 : Int32) (v6 : Int32) (M : XM), κ50 v0 v1 v2 v4 v5 v6 M = some q → AW l m_X9_quickest 4 0 0 (x_Ri q) 0 0 50 [some (.ref v0), some (.int v1), some (.int v2), none, some (.int v4), some (.int v5), some (.int v6), none] [] M) (H : bd_X9_quickest_50 κ50 v0 v1 v2 v4 v5 v6 M = some q) : AW l m_X9_quickest 4 0 0 (x_Ri q) 0 0 50 [some (.ref v0), some (.int v1), some (.int v2), none, some (.int v4), some (.int v5), some (.int v6), none] [] M := by
  unfold bd_X9_quickest_50 at H
  refine x_iload 50 6 dX9_quickest_50 rfl ?_
  refine x_aload_n 52 0 dX9_quickest_52 rfl rfl ?_
  obtain ⟨h8, H⟩ := x_ckp H
  refine x_getf 53 93 9 0 (.int (x_i M v0 0)) dX9_quickest_53 lk_1030 (by decide) (by decide) rfl (fun _ => rfl) h8 ?_
  refine x_icmp_ge 56 99 dX9_quickest_56 (by decide) (fun c9 => ?_) (fun c9 => ?_)
  · replace H := x_ifp c9 H
    refine x_iload 99 4 dX9_quickest_99 rfl ?_
    cases H
    exact x_iret 101 dX9_quickest_101 .int rfl rfl (Nat.le_of_ble_eq_true rfl) (Nat.le_of_ble_eq_true rfl) ⟨rfl, rfl⟩
  · replace H := x_ifn c9 H
    refine x_aload_n 59 0 dX9_quickest_59 rfl rfl ?_
    refine x_iload 60 6 dX9_quickest_60 rfl ?_
    refine x_iload_n 62 1 dX9_quickest_62 rfl rfl ?_
    refine x_iload_n 63 2 dX9_quickest_63 rfl rfl ?_
    obtain ⟨r11, M10, e12, H⟩ := x_bd_of H
    refine x_callV 64 215 9 [(.int v6), (.int v1), (.int v2)] [] dX9_quickest_64 (ct_X9_throughBy l e12) lk_1318 lk_1320 lk_60 (by decide) h8 lk_94 lk_1321 ⟨cn_X9_throughBy, (by decide), by decide⟩ rfl (Nat.le_of_ble_eq_true rfl) (Nat.le_of_ble_eq_true rfl) (Nat.le_of_ble_eq_true rfl) (x_ri ?_)
    exact t_X9_quickest_c64 l hκ50 H

def lp_X9_quickest_50 (n : Nat) : Nat → Int32 → Int32 → Int32 → Int32 → Int32 → XM → Option (Int32 × XM) := x_rec (fun _ _ _ _ _ _ _ => none) (bd_X9_quickest_50) n
theorem t_X9_quickest_50 (l : Launch) {q : Int32 × XM} : ∀ (n : Nat) (v0 : Nat) (v1 : Int32) (v2 : Int32) (v4 : Int32) (v5 : Int32) (v6 : Int32) (M : XM), lp_X9_quickest_50 n v0 v1 v2 v4 v5 v6 M = some q → AW l m_X9_quickest 4 0 0 (x_Ri q) 0 0 50 [some (.ref v0), some (.int v1), some (.int v2), none, some (.int v4), some (.int v5), some (.int v6), none] [] M := by
  intro n
  induction n with
  | zero => intro v0 v1 v2 v4 v5 v6 M H; cases H
  | succ n ih => intro v0 v1 v2 v4 v5 v6 M H; exact tb_X9_quickest_50 l ih H
def f_X9_quickest_29 (v0 : Nat) (v1 : Int32) (v2 : Int32) (v3 : Int32) (M : XM) : Option (Int32 × XM) :=
  if v3 = 0 then (lp_X9_quickest_50 x_fuel v0 v1 v2 (-1 : Int32) (401 : Int32) (0 : Int32) M) else (if x_tag M v0 = 9 + 10 then (x_bd (f_X9_noTen v0 v3 M) (fun r17 M16 => some (r17, M16))) else none)
set_option maxRecDepth 20000 in
set_option maxHeartbeats 4000000 in
theorem t_X9_quickest_29 (l : Launch) {v0 : Nat} {v1 : Int32} {v2 : Int32} {v3 : Int32} {M : XM} {q : Int32 × XM} (H : f_X9_quickest_29 v0 v1 v2 v3 M = some q) : AW l m_X9_quickest 4 0 0 (x_Ri q) 0 0 29 [some (.ref v0), some (.int v1), some (.int v2), some (.int v3), none, none, none, none] [] M := by
  unfold f_X9_quickest_29 at H
  refine x_iload_n 29 3 dX9_quickest_29 rfl rfl ?_
  refine x_if_eq 30 39 dX9_quickest_30 (by decide) (fun c7 => ?_) (fun c7 => ?_)
  · replace H := x_ifp c7 H
    refine x_iconst 39 (-1 : Int32) dX9_quickest_39 (by decide) ?_
    refine x_istore 40 4 [some (.ref v0), some (.int v1), some (.int v2), some (.int v3), some (.int (-1 : Int32)), none, none, none] dX9_quickest_40 rfl (Nat.le_of_ble_eq_true rfl) rfl ?_
    refine x_sipush 42 (401 : Int32) dX9_quickest_42 (by decide) ?_
    refine x_istore 45 5 [some (.ref v0), some (.int v1), some (.int v2), some (.int v3), some (.int (-1 : Int32)), some (.int (401 : Int32)), none, none] dX9_quickest_45 rfl (Nat.le_of_ble_eq_true rfl) rfl ?_
    refine x_iconst 47 (0 : Int32) dX9_quickest_47 (by decide) ?_
    refine x_istore 48 6 [some (.ref v0), some (.int v1), some (.int v2), some (.int v3), some (.int (-1 : Int32)), some (.int (401 : Int32)), some (.int (0 : Int32)), none] dX9_quickest_48 rfl (Nat.le_of_ble_eq_true rfl) rfl ?_
    exact x_wk (le_s (le_s (le_s (le_n (le_s (le_s (le_s (le_s le_0)))))))) (t_X9_quickest_50 l _ _ _ _ _ _ _ _ H)
  · replace H := x_ifn c7 H
    refine x_aload_n 33 0 dX9_quickest_33 rfl rfl ?_
    refine x_iload_n 34 3 dX9_quickest_34 rfl rfl ?_
    obtain ⟨h15, H⟩ := x_ckp H
    obtain ⟨r17, M16, e18, H⟩ := x_bd_of H
    refine x_callV 35 212 9 [(.int v3)] [] dX9_quickest_35 (ct_X9_noTen l e18) lk_1314 lk_1316 lk_59 (by decide) h15 lk_94 lk_1317 ⟨cn_X9_noTen, (by decide), by decide⟩ rfl (Nat.le_of_ble_eq_true rfl) (Nat.le_of_ble_eq_true rfl) (Nat.le_of_ble_eq_true rfl) (x_ri ?_)
    cases H
    exact x_iret 38 dX9_quickest_38 .int rfl rfl (Nat.le_of_ble_eq_true rfl) (Nat.le_of_ble_eq_true rfl) ⟨rfl, rfl⟩

def f_X9_quickest_26 (v0 : Nat) (v1 : Int32) (v2 : Int32) (M : XM) : Option (Int32 × XM) :=
  f_X9_quickest_29 v0 v1 v2 (-6 : Int32) M
set_option maxRecDepth 20000 in
set_option maxHeartbeats 4000000 in
theorem t_X9_quickest_26 (l : Launch) {v0 : Nat} {v1 : Int32} {v2 : Int32} {M : XM} {q : Int32 × XM} (H : f_X9_quickest_26 v0 v1 v2 M = some q) : AW l m_X9_quickest 4 0 0 (x_Ri q) 0 0 26 [some (.ref v0), some (.int v1), some (.int v2), none, none, none, none, none] [] M := by
  unfold f_X9_quickest_26 at H
  refine x_bipush 26 (-6 : Int32) dX9_quickest_26 (by decide) ?_
  refine x_istore_n 28 3 [some (.ref v0), some (.int v1), some (.int v2), some (.int (-6 : Int32)), none, none, none, none] dX9_quickest_28 rfl rfl (Nat.le_of_ble_eq_true rfl) rfl ?_
  exact t_X9_quickest_29 l H

def f_X9_quickest_c20 (v0 : Nat) (v1 : Int32) (v2 : Int32) (v3 : Int32) (s0 : Int32) (M : XM) : Option (Int32 × XM) :=
  if s0 = 0 then (f_X9_quickest_26 v0 v1 v2 M) else (f_X9_quickest_29 v0 v1 v2 v3 M)
set_option maxRecDepth 20000 in
set_option maxHeartbeats 4000000 in
theorem t_X9_quickest_c20 (l : Launch) {v0 : Nat} {v1 : Int32} {v2 : Int32} {v3 : Int32} {s0 : Int32} {M : XM} {q : Int32 × XM} (H : f_X9_quickest_c20 v0 v1 v2 v3 s0 M = some q) : AW l m_X9_quickest 4 0 0 (x_Ri q) 0 0 23 [some (.ref v0), some (.int v1), some (.int v2), some (.int v3), none, none, none, none] [(.int s0)] M := by
  unfold f_X9_quickest_c20 at H
  refine x_if_ne 23 29 dX9_quickest_23 (by decide) (fun c23 => ?_) (fun c23 => ?_)
  · replace H := x_ifn c23 H
    exact t_X9_quickest_29 l H
  · replace H := x_ifp c23 H
    exact x_wk (le_s (le_s (le_s (le_n (le_s (le_s (le_s (le_s le_0)))))))) (t_X9_quickest_26 l H)

def f_X9_quickest_c3 (v0 : Nat) (v1 : Int32) (v2 : Int32) (s0 : Int32) (M : XM) : Option (Int32 × XM) :=
  if s0 = 0 then (if (40 : Int32) < v2 then (f_X9_quickest_26 v0 v1 v2 M) else (if x_tag M v0 = 9 + 10 then (x_bd (f_X9_areSeconds v0 v1 v2 M) (f_X9_quickest_c20 v0 v1 v2 s0)) else none)) else (f_X9_quickest_29 v0 v1 v2 s0 M)
set_option maxRecDepth 20000 in
set_option maxHeartbeats 4000000 in
theorem t_X9_quickest_c3 (l : Launch) {v0 : Nat} {v1 : Int32} {v2 : Int32} {s0 : Int32} {M : XM} {q : Int32 × XM} (H : f_X9_quickest_c3 v0 v1 v2 s0 M = some q) : AW l m_X9_quickest 4 0 0 (x_Ri q) 0 0 6 [some (.ref v0), some (.int v1), some (.int v2), none, none, none, none, none] [(.int s0)] M := by
  unfold f_X9_quickest_c3 at H
  refine x_istore_n 6 3 [some (.ref v0), some (.int v1), some (.int v2), some (.int s0), none, none, none, none] dX9_quickest_6 rfl rfl (Nat.le_of_ble_eq_true rfl) rfl ?_
  refine x_iload_n 7 3 dX9_quickest_7 rfl rfl ?_
  refine x_if_ne 8 29 dX9_quickest_8 (by decide) (fun c5 => ?_) (fun c5 => ?_)
  · replace H := x_ifn c5 H
    exact t_X9_quickest_29 l H
  · replace H := x_ifp c5 H
    refine x_iload_n 11 2 dX9_quickest_11 rfl rfl ?_
    refine x_bipush 12 (40 : Int32) dX9_quickest_12 (by decide) ?_
    refine x_icmp_gt 14 26 dX9_quickest_14 (by decide) (fun c6 => ?_) (fun c6 => ?_)
    · replace H := x_ifp c6 H
      exact x_wk (le_s (le_s (le_s (le_n (le_s (le_s (le_s (le_s le_0)))))))) (t_X9_quickest_26 l H)
    · replace H := x_ifn c6 H
      refine x_aload_n 17 0 dX9_quickest_17 rfl rfl ?_
      refine x_iload_n 18 1 dX9_quickest_18 rfl rfl ?_
      refine x_iload_n 19 2 dX9_quickest_19 rfl rfl ?_
      obtain ⟨h19, H⟩ := x_ckp H
      obtain ⟨r21, M20, e22, H⟩ := x_bd_of H
      refine x_callV 20 209 9 [(.int v1), (.int v2)] [] dX9_quickest_20 (ct_X9_areSeconds l e22) lk_1294 lk_1296 lk_55 (by decide) h19 lk_94 lk_1297 ⟨cn_X9_areSeconds, (by decide), by decide⟩ rfl (Nat.le_of_ble_eq_true rfl) (Nat.le_of_ble_eq_true rfl) (Nat.le_of_ble_eq_true rfl) (x_ri ?_)
      exact t_X9_quickest_c20 l H

def f_X9_quickest (v0 : Nat) (v1 : Int32) (v2 : Int32) (M : XM) : Option (Int32 × XM) :=
  if x_tag M v0 = 9 + 10 then (x_bd (f_X9_bars v0 v1 v2 M) (f_X9_quickest_c3 v0 v1 v2)) else none
set_option maxRecDepth 20000 in
set_option maxHeartbeats 4000000 in
theorem t_X9_quickest (l : Launch) {v0 : Nat} {v1 : Int32} {v2 : Int32} {M : XM} {q : Int32 × XM} (H : f_X9_quickest v0 v1 v2 M = some q) : AW l m_X9_quickest 4 0 0 (x_Ri q) 0 0 0 [some (.ref v0), some (.int v1), some (.int v2), none, none, none, none, none] [] M := by
  unfold f_X9_quickest at H
  refine x_aload_n 0 0 dX9_quickest_0 rfl rfl ?_
  refine x_iload_n 1 1 dX9_quickest_1 rfl rfl ?_
  refine x_iload_n 2 2 dX9_quickest_2 rfl rfl ?_
  obtain ⟨h1, H⟩ := x_ckp H
  obtain ⟨r3, M2, e4, H⟩ := x_bd_of H
  refine x_callV 3 206 9 [(.int v1), (.int v2)] [] dX9_quickest_3 (ct_X9_bars l e4) lk_1290 lk_1292 lk_54 (by decide) h1 lk_94 lk_1293 ⟨cn_X9_bars, (by decide), by decide⟩ rfl (Nat.le_of_ble_eq_true rfl) (Nat.le_of_ble_eq_true rfl) (Nat.le_of_ble_eq_true rfl) (x_ri ?_)
  exact t_X9_quickest_c3 l H

theorem ct_X9_quickest (l : Launch) {v0 : Nat} {v1 : Int32} {v2 : Int32} {M : XM} {q : Int32 × XM} (H : f_X9_quickest v0 v1 v2 M = some q) : Ct l m_X9_quickest 4 0 0 [(.ref v0), (.int v1), (.int v2)] M (x_Ri q) := x_met l m_X9_quickest 4 0 0 [(.ref v0), (.int v1), (.int v2)] M (x_Ri q) _ rfl rfl (Nat.le_of_ble_eq_true rfl) (t_X9_quickest l H)
abbrev m_X9_compares : XU := (yX9_compares, cX9_compares, 5, none)
theorem cn_X9_compares : m_X9_compares.1.cls ≠ "java/lang/invoke/MethodHandle" ∧ m_X9_compares.1.cls ≠ "java/lang/invoke/VarHandle" ∧ (parseMethodDescriptor m_X9_compares.1.desc).map (fun q => q.parameters.length) = some 3 := by decide +kernel
def f_X9_compares_c87 (κ36 : Nat → Int32 → Int32 → Int32 → Int32 → XM → Option XM) (v0 : Nat) (v1 : Int32) (v2 : Int32) (v3 : Int32) (v4 : Int32) (M : XM) : Option XM :=
  κ36 v0 v1 v2 v3 (v4 + (1 : Int32)) M
set_option maxRecDepth 20000 in
set_option maxHeartbeats 4000000 in
theorem t_X9_compares_c87 (l : Launch) {κ36 : Nat → Int32 → Int32 → Int32 → Int32 → XM → Option XM} {v0 : Nat} {v1 : Int32} {v2 : Int32} {v3 : Int32} {v4 : Int32} {M : XM} {q : XM} (hκ36 : ∀ (v0 : Nat) (v1 : Int32) (v2 : Int32) (v3 : Int32) (v4 : Int32) (M : XM), κ36 v0 v1 v2 v3 v4 M = some q → AW l m_X9_compares 3 0 0 (x_Rv q) 0 0 36 [some (.ref v0), some (.int v1), some (.int v2), some (.int v3), some (.int v4)] [] M) (H : f_X9_compares_c87 κ36 v0 v1 v2 v3 v4 M = some q) : AW l m_X9_compares 3 0 0 (x_Rv q) 0 0 90 [some (.ref v0), some (.int v1), some (.int v2), some (.int v3), some (.int v4)] [] M := by
  unfold f_X9_compares_c87 at H
  refine x_iinc 90 4 (v4 + (1 : Int32)) [some (.ref v0), some (.int v1), some (.int v2), some (.int v3), some (.int (v4 + (1 : Int32)))] dX9_compares_90 rfl (congrArg (fun z : Int32 => v4 + z) (show Int32.ofInt (1) = (1 : Int32) by decide)) rfl (Nat.le_of_ble_eq_true rfl) rfl ?_
  refine x_goto 93 36 dX9_compares_93 (by decide) ?_
  exact hκ36 _ _ _ _ _ _ H

def f_X9_compares_74 (κ36 : Nat → Int32 → Int32 → Int32 → Int32 → XM → Option XM) (v0 : Nat) (v1 : Int32) (v2 : Int32) (v3 : Int32) (v4 : Int32) (M : XM) : Option XM :=
  if x_tag M v0 = 9 + 10 then (if x_at M (x_r M v0 18) 1 v2 = true then (x_bv (f_X9_goes v0 v1 (v4 + (1 : Int32)) v2 (x_i M (x_r M v0 18) v2.toNatClampNeg) M) (f_X9_compares_c87 κ36 v0 v1 v2 v3 v4)) else none) else none
set_option maxRecDepth 20000 in
set_option maxHeartbeats 4000000 in
theorem t_X9_compares_74 (l : Launch) {κ36 : Nat → Int32 → Int32 → Int32 → Int32 → XM → Option XM} {v0 : Nat} {v1 : Int32} {v2 : Int32} {v3 : Int32} {v4 : Int32} {M : XM} {q : XM} (hκ36 : ∀ (v0 : Nat) (v1 : Int32) (v2 : Int32) (v3 : Int32) (v4 : Int32) (M : XM), κ36 v0 v1 v2 v3 v4 M = some q → AW l m_X9_compares 3 0 0 (x_Rv q) 0 0 36 [some (.ref v0), some (.int v1), some (.int v2), some (.int v3), some (.int v4)] [] M) (H : f_X9_compares_74 κ36 v0 v1 v2 v3 v4 M = some q) : AW l m_X9_compares 3 0 0 (x_Rv q) 0 0 74 [some (.ref v0), some (.int v1), some (.int v2), some (.int v3), some (.int v4)] [] M := by
  unfold f_X9_compares_74 at H
  refine x_aload_n 74 0 dX9_compares_74 rfl rfl ?_
  refine x_iload_n 75 1 dX9_compares_75 rfl rfl ?_
  refine x_iload 76 4 dX9_compares_76 rfl ?_
  refine x_iconst 78 (1 : Int32) dX9_compares_78 (by decide) ?_
  refine x_iadd 79 dX9_compares_79 ?_
  refine x_iload_n 80 2 dX9_compares_80 rfl rfl ?_
  refine x_aload_n 81 0 dX9_compares_81 rfl rfl ?_
  obtain ⟨h15, H⟩ := x_ckp H
  refine x_getf 82 56 9 18 (.ref (x_r M v0 18)) dX9_compares_82 lk_1048 (by decide) (by decide) rfl (fun _ => rfl) h15 ?_
  refine x_iload_n 85 2 dX9_compares_85 rfl rfl ?_
  obtain ⟨h16, H⟩ := x_ckp H
  refine x_iald 86 dX9_compares_86 h16 ?_
  obtain ⟨M17, e19, H⟩ := x_bv_of H
  refine x_callV 87 202 9 [(.int v1), (.int (v4 + (1 : Int32))), (.int v2), (.int (x_i M (x_r M v0 18) v2.toNatClampNeg))] [] dX9_compares_87 (ct_X9_goes l e19) lk_1306 lk_1308 lk_58 (by decide) h15 lk_94 lk_1309 ⟨cn_X9_goes, (by decide), by decide⟩ rfl (Nat.le_of_ble_eq_true rfl) (Nat.le_of_ble_eq_true rfl) (Nat.le_of_ble_eq_true rfl) (x_rv ?_)
  exact t_X9_compares_c87 l hκ36 H

def bd_X9_compares_36 (κ36 : Nat → Int32 → Int32 → Int32 → Int32 → XM → Option XM) (v0 : Nat) (v1 : Int32) (v2 : Int32) (v3 : Int32) (v4 : Int32) (M : XM) : Option XM :=
  if (400 : Int32) < v4 then (some M) else (if x_tag M v0 = 9 + 10 then (if x_at M (x_r M v0 38) 1 (v3 + (x_i M v0 31)) = true then (if (x_i M (x_r M v0 38) (v3 + (x_i M v0 31)).toNatClampNeg) = (-1 : Int32) then (x_lt (x_wi M (x_r M v0 38) (v3 + (x_i M v0 31)).toNatClampNeg (x_i M v0 32)) (fun M10 => f_X9_compares_74 κ36 v0 v1 v2 v3 v4 M10)) else (f_X9_compares_74 κ36 v0 v1 v2 v3 v4 M)) else none) else none)
set_option maxRecDepth 20000 in
set_option maxHeartbeats 4000000 in
theorem tb_X9_compares_36 (l : Launch) {κ36 : Nat → Int32 → Int32 → Int32 → Int32 → XM → Option XM} {v0 : Nat} {v1 : Int32} {v2 : Int32} {v3 : Int32} {v4 : Int32} {M : XM} {q : XM} (hκ36 : ∀ (v0 : Nat) (v1 : Int32) (v2 : Int32) (v3 : Int32) (v4 : Int32) (M : XM), κ36 v0 v1 v2 v3 v4 M = some q → AW l m_X9_compares 3 0 0 (x_Rv q) 0 0 36 [some (.ref v0), some (.int v1), some (.int v2), some (.int v3), some (.int v4)] [] M) (H : bd_X9_compares_36 κ36 v0 v1 v2 v3 v4 M = some q) : AW l m_X9_compares 3 0 0 (x_Rv q) 0 0 36 [some (.ref v0), some (.int v1), some (.int v2), some (.int v3), some (.int v4)] [] M := by
  unfold bd_X9_compares_36 at H
  refine x_iload 36 4 dX9_compares_36 rfl ?_
  refine x_sipush 38 (400 : Int32) dX9_compares_38 (by decide) ?_
  refine x_icmp_gt 41 96 dX9_compares_41 (by decide) (fun c6 => ?_) (fun c6 => ?_)
  · replace H := x_ifp c6 H
    cases H
    exact x_vret 96 dX9_compares_96 rfl (Nat.le_of_ble_eq_true rfl) (Nat.le_of_ble_eq_true rfl) ⟨rfl, rfl⟩
  · replace H := x_ifn c6 H
    refine x_aload_n 44 0 dX9_compares_44 rfl rfl ?_
    obtain ⟨h7, H⟩ := x_ckp H
    refine x_getf 45 87 9 38 (.ref (x_r M v0 38)) dX9_compares_45 lk_1068 (by decide) (by decide) rfl (fun _ => rfl) h7 ?_
    refine x_iload_n 48 3 dX9_compares_48 rfl rfl ?_
    refine x_aload_n 49 0 dX9_compares_49 rfl rfl ?_
    refine x_getf 50 187 9 31 (.int (x_i M v0 31)) dX9_compares_50 lk_1061 (by decide) (by decide) rfl (fun _ => rfl) h7 ?_
    refine x_iadd 53 dX9_compares_53 ?_
    obtain ⟨h8, H⟩ := x_ckp H
    refine x_iald 54 dX9_compares_54 h8 ?_
    refine x_iconst 55 (-1 : Int32) dX9_compares_55 (by decide) ?_
    refine x_icmp_ne 56 74 dX9_compares_56 (by decide) (fun c9 => ?_) (fun c9 => ?_)
    · replace H := x_ifn c9 H
      exact t_X9_compares_74 l hκ36 H
    · replace H := x_ifp c9 H
      refine x_aload_n 59 0 dX9_compares_59 rfl rfl ?_
      refine x_getf 60 87 9 38 (.ref (x_r M v0 38)) dX9_compares_60 lk_1068 (by decide) (by decide) rfl (fun _ => rfl) h7 ?_
      refine x_iload_n 63 3 dX9_compares_63 rfl rfl ?_
      refine x_aload_n 64 0 dX9_compares_64 rfl rfl ?_
      refine x_getf 65 187 9 31 (.int (x_i M v0 31)) dX9_compares_65 lk_1061 (by decide) (by decide) rfl (fun _ => rfl) h7 ?_
      refine x_iadd 68 dX9_compares_68 ?_
      refine x_aload_n 69 0 dX9_compares_69 rfl rfl ?_
      refine x_getf 70 190 9 32 (.int (x_i M v0 32)) dX9_compares_70 lk_1062 (by decide) (by decide) rfl (fun _ => rfl) h7 ?_
      obtain ⟨M10, w11, H⟩ := x_lt_of H
      have h12 : x_tag M10 v0 = 9 + 10 := by rw [w11]; exact h7
      have h13 : x_at M10 (x_r M v0 38) 1 (v3 + (x_i M v0 31)) = true := by rw [w11]; exact h8
      have h14 : x_tag M10 (x_r M v0 38) = 1 := by rw [w11]; exact (x_at_1 h8)
      refine x_iast' 73 dX9_compares_73 h8 w11 ?_
      exact t_X9_compares_74 l hκ36 H

def lp_X9_compares_36 (n : Nat) : Nat → Int32 → Int32 → Int32 → Int32 → XM → Option XM := x_rec (fun _ _ _ _ _ _ => none) (bd_X9_compares_36) n
theorem t_X9_compares_36 (l : Launch) {q : XM} : ∀ (n : Nat) (v0 : Nat) (v1 : Int32) (v2 : Int32) (v3 : Int32) (v4 : Int32) (M : XM), lp_X9_compares_36 n v0 v1 v2 v3 v4 M = some q → AW l m_X9_compares 3 0 0 (x_Rv q) 0 0 36 [some (.ref v0), some (.int v1), some (.int v2), some (.int v3), some (.int v4)] [] M := by
  intro n
  induction n with
  | zero => intro v0 v1 v2 v3 v4 M H; cases H
  | succ n ih => intro v0 v1 v2 v3 v4 M H; exact tb_X9_compares_36 l ih H
def f_X9_compares_c30 (v0 : Nat) (v1 : Int32) (v2 : Int32) (v3 : Int32) (M : XM) : Option XM :=
  lp_X9_compares_36 x_fuel v0 v1 v2 v3 (0 : Int32) M
set_option maxRecDepth 20000 in
set_option maxHeartbeats 4000000 in
theorem t_X9_compares_c30 (l : Launch) {v0 : Nat} {v1 : Int32} {v2 : Int32} {v3 : Int32} {M : XM} {q : XM} (H : f_X9_compares_c30 v0 v1 v2 v3 M = some q) : AW l m_X9_compares 3 0 0 (x_Rv q) 0 0 33 [some (.ref v0), some (.int v1), some (.int v2), some (.int v3), none] [] M := by
  unfold f_X9_compares_c30 at H
  refine x_iconst 33 (0 : Int32) dX9_compares_33 (by decide) ?_
  refine x_istore 34 4 [some (.ref v0), some (.int v1), some (.int v2), some (.int v3), some (.int (0 : Int32))] dX9_compares_34 rfl (Nat.le_of_ble_eq_true rfl) rfl ?_
  exact t_X9_compares_36 l _ _ _ _ _ _ _ H

def bd_X9_compares_3 (κ3 : Nat → Int32 → Int32 → Int32 → Int32 → XM → Option XM) (v0 : Nat) (v1 : Int32) (v2 : Int32) (v3 : Int32) (v4 : Int32) (M : XM) : Option XM :=
  if x_tag M v0 = 9 + 10 then (if (x_i M v0 1) < v4 then (x_bv (f_X9_begins v0 v1 M) (f_X9_compares_c30 v0 v1 v2 v3)) else (if x_at M (x_r M v0 38) 1 (v3 + v4) = true then (x_lt (x_wi M (x_r M v0 38) (v3 + v4).toNatClampNeg (-1 : Int32)) (fun M21 => κ3 v0 v1 v2 v3 (v4 + (1 : Int32)) M21)) else none)) else none
set_option maxRecDepth 20000 in
set_option maxHeartbeats 4000000 in
theorem tb_X9_compares_3 (l : Launch) {κ3 : Nat → Int32 → Int32 → Int32 → Int32 → XM → Option XM} {v0 : Nat} {v1 : Int32} {v2 : Int32} {v3 : Int32} {v4 : Int32} {M : XM} {q : XM} (hκ3 : ∀ (v0 : Nat) (v1 : Int32) (v2 : Int32) (v3 : Int32) (v4 : Int32) (M : XM), κ3 v0 v1 v2 v3 v4 M = some q → AW l m_X9_compares 3 0 0 (x_Rv q) 0 0 3 [some (.ref v0), some (.int v1), some (.int v2), some (.int v3), some (.int v4)] [] M) (H : bd_X9_compares_3 κ3 v0 v1 v2 v3 v4 M = some q) : AW l m_X9_compares 3 0 0 (x_Rv q) 0 0 3 [some (.ref v0), some (.int v1), some (.int v2), some (.int v3), some (.int v4)] [] M := by
  unfold bd_X9_compares_3 at H
  refine x_iload 3 4 dX9_compares_3 rfl ?_
  refine x_aload_n 5 0 dX9_compares_5 rfl rfl ?_
  obtain ⟨h1, H⟩ := x_ckp H
  refine x_getf 6 7 9 1 (.int (x_i M v0 1)) dX9_compares_6 lk_1031 (by decide) (by decide) rfl (fun _ => rfl) h1 ?_
  refine x_icmp_gt 9 28 dX9_compares_9 (by decide) (fun c2 => ?_) (fun c2 => ?_)
  · replace H := x_ifp c2 H
    refine x_aload_n 28 0 dX9_compares_28 rfl rfl ?_
    refine x_iload_n 29 1 dX9_compares_29 rfl rfl ?_
    obtain ⟨M3, e5, H⟩ := x_bv_of H
    refine x_callV 30 199 9 [(.int v1)] [] dX9_compares_30 (ct_X9_begins l e5) lk_1302 lk_1304 lk_57 (by decide) h1 lk_94 lk_1305 ⟨cn_X9_begins, (by decide), by decide⟩ rfl (Nat.le_of_ble_eq_true rfl) (Nat.le_of_ble_eq_true rfl) (Nat.le_of_ble_eq_true rfl) (x_rv ?_)
    exact x_wk (le_s (le_s (le_s (le_s (le_n le_0))))) (t_X9_compares_c30 l H)
  · replace H := x_ifn c2 H
    refine x_aload_n 12 0 dX9_compares_12 rfl rfl ?_
    refine x_getf 13 87 9 38 (.ref (x_r M v0 38)) dX9_compares_13 lk_1068 (by decide) (by decide) rfl (fun _ => rfl) h1 ?_
    refine x_iload_n 16 3 dX9_compares_16 rfl rfl ?_
    refine x_iload 17 4 dX9_compares_17 rfl ?_
    refine x_iadd 19 dX9_compares_19 ?_
    refine x_iconst 20 (-1 : Int32) dX9_compares_20 (by decide) ?_
    obtain ⟨h20, H⟩ := x_ckp H
    obtain ⟨M21, w22, H⟩ := x_lt_of H
    have h23 : x_tag M21 v0 = 9 + 10 := by rw [w22]; exact h1
    have h24 : x_at M21 (x_r M v0 38) 1 (v3 + v4) = true := by rw [w22]; exact h20
    have h25 : x_tag M21 (x_r M v0 38) = 1 := by rw [w22]; exact (x_at_1 h20)
    refine x_iast' 21 dX9_compares_21 h20 w22 ?_
    refine x_iinc 22 4 (v4 + (1 : Int32)) [some (.ref v0), some (.int v1), some (.int v2), some (.int v3), some (.int (v4 + (1 : Int32)))] dX9_compares_22 rfl (congrArg (fun z : Int32 => v4 + z) (show Int32.ofInt (1) = (1 : Int32) by decide)) rfl (Nat.le_of_ble_eq_true rfl) rfl ?_
    refine x_goto 25 3 dX9_compares_25 (by decide) ?_
    exact hκ3 _ _ _ _ _ _ H

def lp_X9_compares_3 (n : Nat) : Nat → Int32 → Int32 → Int32 → Int32 → XM → Option XM := x_rec (fun _ _ _ _ _ _ => none) (bd_X9_compares_3) n
theorem t_X9_compares_3 (l : Launch) {q : XM} : ∀ (n : Nat) (v0 : Nat) (v1 : Int32) (v2 : Int32) (v3 : Int32) (v4 : Int32) (M : XM), lp_X9_compares_3 n v0 v1 v2 v3 v4 M = some q → AW l m_X9_compares 3 0 0 (x_Rv q) 0 0 3 [some (.ref v0), some (.int v1), some (.int v2), some (.int v3), some (.int v4)] [] M := by
  intro n
  induction n with
  | zero => intro v0 v1 v2 v3 v4 M H; cases H
  | succ n ih => intro v0 v1 v2 v3 v4 M H; exact tb_X9_compares_3 l ih H
def f_X9_compares (v0 : Nat) (v1 : Int32) (v2 : Int32) (v3 : Int32) (M : XM) : Option XM :=
  lp_X9_compares_3 x_fuel v0 v1 v2 v3 (0 : Int32) M
set_option maxRecDepth 20000 in
set_option maxHeartbeats 4000000 in
theorem t_X9_compares (l : Launch) {v0 : Nat} {v1 : Int32} {v2 : Int32} {v3 : Int32} {M : XM} {q : XM} (H : f_X9_compares v0 v1 v2 v3 M = some q) : AW l m_X9_compares 3 0 0 (x_Rv q) 0 0 0 [some (.ref v0), some (.int v1), some (.int v2), some (.int v3), none] [] M := by
  unfold f_X9_compares at H
  refine x_iconst 0 (0 : Int32) dX9_compares_0 (by decide) ?_
  refine x_istore 1 4 [some (.ref v0), some (.int v1), some (.int v2), some (.int v3), some (.int (0 : Int32))] dX9_compares_1 rfl (Nat.le_of_ble_eq_true rfl) rfl ?_
  exact t_X9_compares_3 l _ _ _ _ _ _ _ H

theorem ct_X9_compares (l : Launch) {v0 : Nat} {v1 : Int32} {v2 : Int32} {v3 : Int32} {M : XM} {q : XM} (H : f_X9_compares v0 v1 v2 v3 M = some q) : Ct l m_X9_compares 3 0 0 [(.ref v0), (.int v1), (.int v2), (.int v3)] M (x_Rv q) := x_met l m_X9_compares 3 0 0 [(.ref v0), (.int v1), (.int v2), (.int v3)] M (x_Rv q) _ rfl rfl (Nat.le_of_ble_eq_true rfl) (t_X9_compares l H)
theorem lk_1411 : Cond.code yX9_compares cX9_compares 5 none ∈ x_TB := x_tb (k := 1411) (by decide +kernel) rfl
theorem lk_1408 : Cond.methodLink RX9 254 yX9_compares ∈ x_TB := x_tb (k := 1408) (by decide +kernel) rfl
theorem lk_71 : Cond.selects RX9 yX9_compares yX9_compares ∈ x_TB := x_tb (k := 71) (by decide +kernel) rfl
theorem lk_1410 : Cond.instanceMethod yX9_compares ∈ x_TB := x_tb (k := 1410) (by decide +kernel) rfl
abbrev m_X9_parted : XU := (yX9_parted, cX9_parted, 9, (some .int))
theorem cn_X9_parted : m_X9_parted.1.cls ≠ "java/lang/invoke/MethodHandle" ∧ m_X9_parted.1.cls ≠ "java/lang/invoke/VarHandle" ∧ (parseMethodDescriptor m_X9_parted.1.desc).map (fun q => q.parameters.length) = some 5 := by decide +kernel
def bd_X9_parted_216 (κ216 : Nat → Int32 → Int32 → XM → Option (Int32 × XM)) (v0 : Nat) (v5 : Int32) (v8 : Int32) (M : XM) : Option (Int32 × XM) :=
  if x_tag M v0 = 9 + 10 then (if (x_i M v0 1) < v8 then (some ((-1 : Int32), M)) else (if x_at M (x_r M v0 38) 1 v8 = true then (if x_at M (x_r M v0 38) 1 ((201 : Int32) + v8) = true then (if (x_i M (x_r M v0 38) v8.toNatClampNeg) = (x_i M (x_r M v0 38) ((201 : Int32) + v8).toNatClampNeg) then (κ216 v0 v5 (v8 + v5) M) else (some (v8, M))) else none) else none)) else none
set_option maxRecDepth 20000 in
set_option maxHeartbeats 4000000 in
theorem tb_X9_parted_216 (l : Launch) {κ216 : Nat → Int32 → Int32 → XM → Option (Int32 × XM)} {v0 : Nat} {v5 : Int32} {v8 : Int32} {M : XM} {q : Int32 × XM} (hκ216 : ∀ (v0 : Nat) (v5 : Int32) (v8 : Int32) (M : XM), κ216 v0 v5 v8 M = some q → AW l m_X9_parted 4 0 0 (x_Ri q) 0 0 216 [some (.ref v0), none, none, none, none, some (.int v5), none, none, some (.int v8)] [] M) (H : bd_X9_parted_216 κ216 v0 v5 v8 M = some q) : AW l m_X9_parted 4 0 0 (x_Ri q) 0 0 216 [some (.ref v0), none, none, none, none, some (.int v5), none, none, some (.int v8)] [] M := by
  unfold bd_X9_parted_216 at H
  refine x_iload 216 8 dX9_parted_216 rfl ?_
  refine x_aload_n 218 0 dX9_parted_218 rfl rfl ?_
  obtain ⟨h18, H⟩ := x_ckp H
  refine x_getf 219 7 9 1 (.int (x_i M v0 1)) dX9_parted_219 lk_1031 (by decide) (by decide) rfl (fun _ => rfl) h18 ?_
  refine x_icmp_gt 222 259 dX9_parted_222 (by decide) (fun c19 => ?_) (fun c19 => ?_)
  · replace H := x_ifp c19 H
    refine x_iconst 259 (-1 : Int32) dX9_parted_259 (by decide) ?_
    cases H
    exact x_iret 260 dX9_parted_260 .int rfl rfl (Nat.le_of_ble_eq_true rfl) (Nat.le_of_ble_eq_true rfl) ⟨rfl, rfl⟩
  · replace H := x_ifn c19 H
    refine x_aload_n 225 0 dX9_parted_225 rfl rfl ?_
    refine x_getf 226 87 9 38 (.ref (x_r M v0 38)) dX9_parted_226 lk_1068 (by decide) (by decide) rfl (fun _ => rfl) h18 ?_
    refine x_iload 229 8 dX9_parted_229 rfl ?_
    obtain ⟨h20, H⟩ := x_ckp H
    refine x_iald 231 dX9_parted_231 h20 ?_
    refine x_aload_n 232 0 dX9_parted_232 rfl rfl ?_
    refine x_getf 233 87 9 38 (.ref (x_r M v0 38)) dX9_parted_233 lk_1068 (by decide) (by decide) rfl (fun _ => rfl) h18 ?_
    refine x_sipush 236 (201 : Int32) dX9_parted_236 (by decide) ?_
    refine x_iload 239 8 dX9_parted_239 rfl ?_
    refine x_iadd 241 dX9_parted_241 ?_
    obtain ⟨h21, H⟩ := x_ckp H
    refine x_iald 242 dX9_parted_242 h21 ?_
    refine x_icmp_eq 243 249 dX9_parted_243 (by decide) (fun c22 => ?_) (fun c22 => ?_)
    · replace H := x_ifp c22 H
      refine x_iload 249 8 dX9_parted_249 rfl ?_
      refine x_iload 251 5 dX9_parted_251 rfl ?_
      refine x_iadd 253 dX9_parted_253 ?_
      refine x_istore 254 8 [some (.ref v0), none, none, none, none, some (.int v5), none, none, some (.int (v8 + v5))] dX9_parted_254 rfl (Nat.le_of_ble_eq_true rfl) rfl ?_
      refine x_goto 256 216 dX9_parted_256 (by decide) ?_
      exact hκ216 _ _ _ _ H
    · replace H := x_ifn c22 H
      refine x_iload 246 8 dX9_parted_246 rfl ?_
      cases H
      exact x_iret 248 dX9_parted_248 .int rfl rfl (Nat.le_of_ble_eq_true rfl) (Nat.le_of_ble_eq_true rfl) ⟨rfl, rfl⟩

def lp_X9_parted_216 (n : Nat) : Nat → Int32 → Int32 → XM → Option (Int32 × XM) := x_rec (fun _ _ _ _ => none) (bd_X9_parted_216) n
theorem t_X9_parted_216 (l : Launch) {q : Int32 × XM} : ∀ (n : Nat) (v0 : Nat) (v5 : Int32) (v8 : Int32) (M : XM), lp_X9_parted_216 n v0 v5 v8 M = some q → AW l m_X9_parted 4 0 0 (x_Ri q) 0 0 216 [some (.ref v0), none, none, none, none, some (.int v5), none, none, some (.int v8)] [] M := by
  intro n
  induction n with
  | zero => intro v0 v5 v8 M H; cases H
  | succ n ih => intro v0 v5 v8 M H; exact tb_X9_parted_216 l ih H
def f_X9_parted_c209 (v0 : Nat) (v5 : Int32) (M : XM) : Option (Int32 × XM) :=
  lp_X9_parted_216 x_fuel v0 v5 v5 M
set_option maxRecDepth 20000 in
set_option maxHeartbeats 4000000 in
theorem t_X9_parted_c209 (l : Launch) {v0 : Nat} {v5 : Int32} {M : XM} {q : Int32 × XM} (H : f_X9_parted_c209 v0 v5 M = some q) : AW l m_X9_parted 4 0 0 (x_Ri q) 0 0 212 [some (.ref v0), none, none, none, none, some (.int v5), none, none, none] [] M := by
  unfold f_X9_parted_c209 at H
  refine x_iload 212 5 dX9_parted_212 rfl ?_
  refine x_istore 214 8 [some (.ref v0), none, none, none, none, some (.int v5), none, none, some (.int v5)] dX9_parted_214 rfl (Nat.le_of_ble_eq_true rfl) rfl ?_
  exact t_X9_parted_216 l _ _ _ _ _ H

def f_X9_parted_c199 (v0 : Nat) (v2 : Int32) (v4 : Int32) (v5 : Int32) (M : XM) : Option (Int32 × XM) :=
  if x_tag M v0 = 9 + 10 then (x_bv (f_X9_compares v0 v2 v4 (201 : Int32) M) (f_X9_parted_c209 v0 v5)) else none
set_option maxRecDepth 20000 in
set_option maxHeartbeats 4000000 in
theorem t_X9_parted_c199 (l : Launch) {v0 : Nat} {v2 : Int32} {v4 : Int32} {v5 : Int32} {M : XM} {q : Int32 × XM} (H : f_X9_parted_c199 v0 v2 v4 v5 M = some q) : AW l m_X9_parted 4 0 0 (x_Ri q) 0 0 202 [some (.ref v0), none, some (.int v2), none, some (.int v4), some (.int v5), none, none, none] [] M := by
  unfold f_X9_parted_c199 at H
  refine x_aload_n 202 0 dX9_parted_202 rfl rfl ?_
  refine x_iload_n 203 2 dX9_parted_203 rfl rfl ?_
  refine x_iload 204 4 dX9_parted_204 rfl ?_
  refine x_sipush 206 (201 : Int32) dX9_parted_206 (by decide) ?_
  obtain ⟨h14, H⟩ := x_ckp H
  obtain ⟨M15, e17, H⟩ := x_bv_of H
  refine x_callV 209 254 9 [(.int v2), (.int v4), (.int (201 : Int32))] [] dX9_parted_209 (ct_X9_compares l e17) lk_1408 lk_1410 lk_71 (by decide) h14 lk_94 lk_1411 ⟨cn_X9_compares, (by decide), by decide⟩ rfl (Nat.le_of_ble_eq_true rfl) (Nat.le_of_ble_eq_true rfl) (Nat.le_of_ble_eq_true rfl) (x_rv ?_)
  exact x_wk (le_s (le_s (le_n (le_s (le_n (le_s (le_s (le_s (le_s le_0))))))))) (t_X9_parted_c209 l H)

def f_X9_parted_183 (v0 : Nat) (v1 : Int32) (v2 : Int32) (v3 : Int32) (v4 : Int32) (v5 : Int32) (v7 : Int32) (M : XM) : Option (Int32 × XM) :=
  if v7 = 0 then (if x_tag M v0 = 9 + 10 then (x_bv (f_X9_compares v0 v1 v3 (0 : Int32) M) (f_X9_parted_c199 v0 v2 v4 v5)) else none) else (if x_tag M v0 = 9 + 10 then (x_bd (f_X9_noTen v0 v7 M) (fun r25 M24 => some (r25, M24))) else none)
set_option maxRecDepth 20000 in
set_option maxHeartbeats 4000000 in
theorem t_X9_parted_183 (l : Launch) {v0 : Nat} {v1 : Int32} {v2 : Int32} {v3 : Int32} {v4 : Int32} {v5 : Int32} {v7 : Int32} {M : XM} {q : Int32 × XM} (H : f_X9_parted_183 v0 v1 v2 v3 v4 v5 v7 M = some q) : AW l m_X9_parted 4 0 0 (x_Ri q) 0 0 183 [some (.ref v0), some (.int v1), some (.int v2), some (.int v3), some (.int v4), some (.int v5), none, some (.int v7), none] [] M := by
  unfold f_X9_parted_183 at H
  refine x_iload 183 7 dX9_parted_183 rfl ?_
  refine x_if_eq 185 195 dX9_parted_185 (by decide) (fun c9 => ?_) (fun c9 => ?_)
  · replace H := x_ifp c9 H
    refine x_aload_n 195 0 dX9_parted_195 rfl rfl ?_
    refine x_iload_n 196 1 dX9_parted_196 rfl rfl ?_
    refine x_iload_n 197 3 dX9_parted_197 rfl rfl ?_
    refine x_iconst 198 (0 : Int32) dX9_parted_198 (by decide) ?_
    obtain ⟨h10, H⟩ := x_ckp H
    obtain ⟨M11, e13, H⟩ := x_bv_of H
    refine x_callV 199 254 9 [(.int v1), (.int v3), (.int (0 : Int32))] [] dX9_parted_199 (ct_X9_compares l e13) lk_1408 lk_1410 lk_71 (by decide) h10 lk_94 lk_1411 ⟨cn_X9_compares, (by decide), by decide⟩ rfl (Nat.le_of_ble_eq_true rfl) (Nat.le_of_ble_eq_true rfl) (Nat.le_of_ble_eq_true rfl) (x_rv ?_)
    exact x_wk (le_s (le_n (le_s (le_n (le_s (le_s (le_s (le_n (le_s le_0))))))))) (t_X9_parted_c199 l H)
  · replace H := x_ifn c9 H
    refine x_aload_n 188 0 dX9_parted_188 rfl rfl ?_
    refine x_iload 189 7 dX9_parted_189 rfl ?_
    obtain ⟨h23, H⟩ := x_ckp H
    obtain ⟨r25, M24, e26, H⟩ := x_bd_of H
    refine x_callV 191 212 9 [(.int v7)] [] dX9_parted_191 (ct_X9_noTen l e26) lk_1314 lk_1316 lk_59 (by decide) h23 lk_94 lk_1317 ⟨cn_X9_noTen, (by decide), by decide⟩ rfl (Nat.le_of_ble_eq_true rfl) (Nat.le_of_ble_eq_true rfl) (Nat.le_of_ble_eq_true rfl) (x_ri ?_)
    cases H
    exact x_iret 194 dX9_parted_194 .int rfl rfl (Nat.le_of_ble_eq_true rfl) (Nat.le_of_ble_eq_true rfl) ⟨rfl, rfl⟩

def f_X9_parted_179 (v0 : Nat) (v1 : Int32) (v2 : Int32) (v3 : Int32) (v4 : Int32) (v5 : Int32) (M : XM) : Option (Int32 × XM) :=
  f_X9_parted_183 v0 v1 v2 v3 v4 v5 (-6 : Int32) M
set_option maxRecDepth 20000 in
set_option maxHeartbeats 4000000 in
theorem t_X9_parted_179 (l : Launch) {v0 : Nat} {v1 : Int32} {v2 : Int32} {v3 : Int32} {v4 : Int32} {v5 : Int32} {M : XM} {q : Int32 × XM} (H : f_X9_parted_179 v0 v1 v2 v3 v4 v5 M = some q) : AW l m_X9_parted 4 0 0 (x_Ri q) 0 0 179 [some (.ref v0), some (.int v1), some (.int v2), some (.int v3), some (.int v4), some (.int v5), none, none, none] [] M := by
  unfold f_X9_parted_179 at H
  refine x_bipush 179 (-6 : Int32) dX9_parted_179 (by decide) ?_
  refine x_istore 181 7 [some (.ref v0), some (.int v1), some (.int v2), some (.int v3), some (.int v4), some (.int v5), none, some (.int (-6 : Int32)), none] dX9_parted_181 rfl (Nat.le_of_ble_eq_true rfl) rfl ?_
  exact t_X9_parted_183 l H

def f_X9_parted_c173 (v0 : Nat) (v1 : Int32) (v2 : Int32) (v3 : Int32) (v4 : Int32) (v5 : Int32) (v7 : Int32) (s0 : Int32) (M : XM) : Option (Int32 × XM) :=
  if s0 = 0 then (f_X9_parted_179 v0 v1 v2 v3 v4 v5 M) else (f_X9_parted_183 v0 v1 v2 v3 v4 v5 v7 M)
set_option maxRecDepth 20000 in
set_option maxHeartbeats 4000000 in
theorem t_X9_parted_c173 (l : Launch) {v0 : Nat} {v1 : Int32} {v2 : Int32} {v3 : Int32} {v4 : Int32} {v5 : Int32} {v7 : Int32} {s0 : Int32} {M : XM} {q : Int32 × XM} (H : f_X9_parted_c173 v0 v1 v2 v3 v4 v5 v7 s0 M = some q) : AW l m_X9_parted 4 0 0 (x_Ri q) 0 0 176 [some (.ref v0), some (.int v1), some (.int v2), some (.int v3), some (.int v4), some (.int v5), none, some (.int v7), none] [(.int s0)] M := by
  unfold f_X9_parted_c173 at H
  refine x_if_ne 176 183 dX9_parted_176 (by decide) (fun c43 => ?_) (fun c43 => ?_)
  · replace H := x_ifn c43 H
    exact t_X9_parted_183 l H
  · replace H := x_ifp c43 H
    exact x_wk (le_s (le_s (le_s (le_s (le_s (le_s (le_s (le_n (le_s le_0))))))))) (t_X9_parted_179 l H)

def f_X9_parted_c157 (v0 : Nat) (v1 : Int32) (v2 : Int32) (v3 : Int32) (v4 : Int32) (v5 : Int32) (v7 : Int32) (s0 : Int32) (M : XM) : Option (Int32 × XM) :=
  if s0 = 0 then (f_X9_parted_179 v0 v1 v2 v3 v4 v5 M) else (if x_tag M v0 = 9 + 10 then (if x_at M (x_r M v0 18) 1 v4 = true then (x_bd (f_X9_areSeconds v0 v4 (x_i M (x_r M v0 18) v4.toNatClampNeg) M) (f_X9_parted_c173 v0 v1 v2 v3 v4 v5 v7)) else none) else none)
set_option maxRecDepth 20000 in
set_option maxHeartbeats 4000000 in
theorem t_X9_parted_c157 (l : Launch) {v0 : Nat} {v1 : Int32} {v2 : Int32} {v3 : Int32} {v4 : Int32} {v5 : Int32} {v7 : Int32} {s0 : Int32} {M : XM} {q : Int32 × XM} (H : f_X9_parted_c157 v0 v1 v2 v3 v4 v5 v7 s0 M = some q) : AW l m_X9_parted 4 0 0 (x_Ri q) 0 0 160 [some (.ref v0), some (.int v1), some (.int v2), some (.int v3), some (.int v4), some (.int v5), none, some (.int v7), none] [(.int s0)] M := by
  unfold f_X9_parted_c157 at H
  refine x_if_eq 160 179 dX9_parted_160 (by decide) (fun c37 => ?_) (fun c37 => ?_)
  · replace H := x_ifp c37 H
    exact x_wk (le_s (le_s (le_s (le_s (le_s (le_s (le_s (le_n (le_s le_0))))))))) (t_X9_parted_179 l H)
  · replace H := x_ifn c37 H
    refine x_aload_n 163 0 dX9_parted_163 rfl rfl ?_
    refine x_iload 164 4 dX9_parted_164 rfl ?_
    refine x_aload_n 166 0 dX9_parted_166 rfl rfl ?_
    obtain ⟨h38, H⟩ := x_ckp H
    refine x_getf 167 56 9 18 (.ref (x_r M v0 18)) dX9_parted_167 lk_1048 (by decide) (by decide) rfl (fun _ => rfl) h38 ?_
    refine x_iload 170 4 dX9_parted_170 rfl ?_
    obtain ⟨h39, H⟩ := x_ckp H
    refine x_iald 172 dX9_parted_172 h39 ?_
    obtain ⟨r41, M40, e42, H⟩ := x_bd_of H
    refine x_callV 173 209 9 [(.int v4), (.int (x_i M (x_r M v0 18) v4.toNatClampNeg))] [] dX9_parted_173 (ct_X9_areSeconds l e42) lk_1294 lk_1296 lk_55 (by decide) h38 lk_94 lk_1297 ⟨cn_X9_areSeconds, (by decide), by decide⟩ rfl (Nat.le_of_ble_eq_true rfl) (Nat.le_of_ble_eq_true rfl) (Nat.le_of_ble_eq_true rfl) (x_ri ?_)
    exact t_X9_parted_c173 l H

def f_X9_parted_100 (v0 : Nat) (v1 : Int32) (v2 : Int32) (v3 : Int32) (v4 : Int32) (v5 : Int32) (s0 : Int32) (M : XM) : Option (Int32 × XM) :=
  if s0 = 0 then (if v1 = v2 then (f_X9_parted_179 v0 v1 v2 v3 v4 v5 M) else (if v5 < (1 : Int32) then (f_X9_parted_179 v0 v1 v2 v3 v4 v5 M) else (if (200 : Int32) < v5 then (f_X9_parted_179 v0 v1 v2 v3 v4 v5 M) else (if x_tag M v0 = 9 + 10 then (if x_at M (x_r M v0 18) 1 v3 = true then (if (40 : Int32) < (x_i M (x_r M v0 18) v3.toNatClampNeg) then (f_X9_parted_179 v0 v1 v2 v3 v4 v5 M) else (if x_at M (x_r M v0 18) 1 v4 = true then (if (40 : Int32) < (x_i M (x_r M v0 18) v4.toNatClampNeg) then (f_X9_parted_179 v0 v1 v2 v3 v4 v5 M) else (x_bd (f_X9_areSeconds v0 v3 (x_i M (x_r M v0 18) v3.toNatClampNeg) M) (f_X9_parted_c157 v0 v1 v2 v3 v4 v5 s0))) else none)) else none) else none)))) else (f_X9_parted_183 v0 v1 v2 v3 v4 v5 s0 M)
set_option maxRecDepth 20000 in
set_option maxHeartbeats 4000000 in
theorem t_X9_parted_100 (l : Launch) {v0 : Nat} {v1 : Int32} {v2 : Int32} {v3 : Int32} {v4 : Int32} {v5 : Int32} {s0 : Int32} {M : XM} {q : Int32 × XM} (H : f_X9_parted_100 v0 v1 v2 v3 v4 v5 s0 M = some q) : AW l m_X9_parted 4 0 0 (x_Ri q) 0 0 100 [some (.ref v0), some (.int v1), some (.int v2), some (.int v3), some (.int v4), some (.int v5), none, none, none] [(.int s0)] M := by
  unfold f_X9_parted_100 at H
  refine x_istore 100 7 [some (.ref v0), some (.int v1), some (.int v2), some (.int v3), some (.int v4), some (.int v5), none, some (.int s0), none] dX9_parted_100 rfl (Nat.le_of_ble_eq_true rfl) rfl ?_
  refine x_iload 102 7 dX9_parted_102 rfl ?_
  refine x_if_ne 104 183 dX9_parted_104 (by decide) (fun c7 => ?_) (fun c7 => ?_)
  · replace H := x_ifn c7 H
    exact t_X9_parted_183 l H
  · replace H := x_ifp c7 H
    refine x_iload_n 107 1 dX9_parted_107 rfl rfl ?_
    refine x_iload_n 108 2 dX9_parted_108 rfl rfl ?_
    refine x_icmp_eq 109 179 dX9_parted_109 (by decide) (fun c8 => ?_) (fun c8 => ?_)
    · replace H := x_ifp c8 H
      exact x_wk (le_s (le_s (le_s (le_s (le_s (le_s (le_s (le_n (le_s le_0))))))))) (t_X9_parted_179 l H)
    · replace H := x_ifn c8 H
      refine x_iload 112 5 dX9_parted_112 rfl ?_
      refine x_iconst 114 (1 : Int32) dX9_parted_114 (by decide) ?_
      refine x_icmp_lt 115 179 dX9_parted_115 (by decide) (fun c27 => ?_) (fun c27 => ?_)
      · replace H := x_ifp c27 H
        exact x_wk (le_s (le_s (le_s (le_s (le_s (le_s (le_s (le_n (le_s le_0))))))))) (t_X9_parted_179 l H)
      · replace H := x_ifn c27 H
        refine x_iload 118 5 dX9_parted_118 rfl ?_
        refine x_sipush 120 (200 : Int32) dX9_parted_120 (by decide) ?_
        refine x_icmp_gt 123 179 dX9_parted_123 (by decide) (fun c28 => ?_) (fun c28 => ?_)
        · replace H := x_ifp c28 H
          exact x_wk (le_s (le_s (le_s (le_s (le_s (le_s (le_s (le_n (le_s le_0))))))))) (t_X9_parted_179 l H)
        · replace H := x_ifn c28 H
          refine x_aload_n 126 0 dX9_parted_126 rfl rfl ?_
          obtain ⟨h29, H⟩ := x_ckp H
          refine x_getf 127 56 9 18 (.ref (x_r M v0 18)) dX9_parted_127 lk_1048 (by decide) (by decide) rfl (fun _ => rfl) h29 ?_
          refine x_iload_n 130 3 dX9_parted_130 rfl rfl ?_
          obtain ⟨h30, H⟩ := x_ckp H
          refine x_iald 131 dX9_parted_131 h30 ?_
          refine x_bipush 132 (40 : Int32) dX9_parted_132 (by decide) ?_
          refine x_icmp_gt 134 179 dX9_parted_134 (by decide) (fun c31 => ?_) (fun c31 => ?_)
          · replace H := x_ifp c31 H
            exact x_wk (le_s (le_s (le_s (le_s (le_s (le_s (le_s (le_n (le_s le_0))))))))) (t_X9_parted_179 l H)
          · replace H := x_ifn c31 H
            refine x_aload_n 137 0 dX9_parted_137 rfl rfl ?_
            refine x_getf 138 56 9 18 (.ref (x_r M v0 18)) dX9_parted_138 lk_1048 (by decide) (by decide) rfl (fun _ => rfl) h29 ?_
            refine x_iload 141 4 dX9_parted_141 rfl ?_
            obtain ⟨h32, H⟩ := x_ckp H
            refine x_iald 143 dX9_parted_143 h32 ?_
            refine x_bipush 144 (40 : Int32) dX9_parted_144 (by decide) ?_
            refine x_icmp_gt 146 179 dX9_parted_146 (by decide) (fun c33 => ?_) (fun c33 => ?_)
            · replace H := x_ifp c33 H
              exact x_wk (le_s (le_s (le_s (le_s (le_s (le_s (le_s (le_n (le_s le_0))))))))) (t_X9_parted_179 l H)
            · replace H := x_ifn c33 H
              refine x_aload_n 149 0 dX9_parted_149 rfl rfl ?_
              refine x_iload_n 150 3 dX9_parted_150 rfl rfl ?_
              refine x_aload_n 151 0 dX9_parted_151 rfl rfl ?_
              refine x_getf 152 56 9 18 (.ref (x_r M v0 18)) dX9_parted_152 lk_1048 (by decide) (by decide) rfl (fun _ => rfl) h29 ?_
              refine x_iload_n 155 3 dX9_parted_155 rfl rfl ?_
              refine x_iald 156 dX9_parted_156 h30 ?_
              obtain ⟨r35, M34, e36, H⟩ := x_bd_of H
              refine x_callV 157 209 9 [(.int v3), (.int (x_i M (x_r M v0 18) v3.toNatClampNeg))] [] dX9_parted_157 (ct_X9_areSeconds l e36) lk_1294 lk_1296 lk_55 (by decide) h29 lk_94 lk_1297 ⟨cn_X9_areSeconds, (by decide), by decide⟩ rfl (Nat.le_of_ble_eq_true rfl) (Nat.le_of_ble_eq_true rfl) (Nat.le_of_ble_eq_true rfl) (x_ri ?_)
              exact t_X9_parted_c157 l H

def f_X9_parted_70 (v0 : Nat) (v1 : Int32) (v2 : Int32) (v3 : Int32) (v4 : Int32) (v5 : Int32) (M : XM) : Option (Int32 × XM) :=
  f_X9_parted_100 v0 v1 v2 v3 v4 v5 (-2 : Int32) M
set_option maxRecDepth 20000 in
set_option maxHeartbeats 4000000 in
theorem t_X9_parted_70 (l : Launch) {v0 : Nat} {v1 : Int32} {v2 : Int32} {v3 : Int32} {v4 : Int32} {v5 : Int32} {M : XM} {q : Int32 × XM} (H : f_X9_parted_70 v0 v1 v2 v3 v4 v5 M = some q) : AW l m_X9_parted 4 0 0 (x_Ri q) 0 0 70 [some (.ref v0), some (.int v1), some (.int v2), some (.int v3), some (.int v4), some (.int v5), none, none, none] [] M := by
  unfold f_X9_parted_70 at H
  refine x_bipush 70 (-2 : Int32) dX9_parted_70 (by decide) ?_
  refine x_goto 72 100 dX9_parted_72 (by decide) ?_
  exact t_X9_parted_100 l H

def f_X9_parted_94 (v0 : Nat) (v1 : Int32) (v2 : Int32) (v3 : Int32) (v4 : Int32) (v5 : Int32) (M : XM) : Option (Int32 × XM) :=
  f_X9_parted_100 v0 v1 v2 v3 v4 v5 (-3 : Int32) M
set_option maxRecDepth 20000 in
set_option maxHeartbeats 4000000 in
theorem t_X9_parted_94 (l : Launch) {v0 : Nat} {v1 : Int32} {v2 : Int32} {v3 : Int32} {v4 : Int32} {v5 : Int32} {M : XM} {q : Int32 × XM} (H : f_X9_parted_94 v0 v1 v2 v3 v4 v5 M = some q) : AW l m_X9_parted 4 0 0 (x_Ri q) 0 0 94 [some (.ref v0), some (.int v1), some (.int v2), some (.int v3), some (.int v4), some (.int v5), none, none, none] [] M := by
  unfold f_X9_parted_94 at H
  refine x_bipush 94 (-3 : Int32) dX9_parted_94 (by decide) ?_
  refine x_goto 96 100 dX9_parted_96 (by decide) ?_
  exact t_X9_parted_100 l H

def f_X9_parted_38 (v0 : Nat) (v1 : Int32) (v2 : Int32) (v3 : Int32) (v4 : Int32) (v5 : Int32) (s0 : Int32) (M : XM) : Option (Int32 × XM) :=
  if s0 = 0 then (f_X9_parted_100 v0 v1 v2 v3 v4 v5 (-1 : Int32) M) else (if x_tag M v0 = 9 + 10 then (if x_at M (x_r M v0 16) 1 v3 = true then (if (x_i M (x_r M v0 16) v3.toNatClampNeg) = (2 : Int32) then (f_X9_parted_70 v0 v1 v2 v3 v4 v5 M) else (if x_at M (x_r M v0 16) 1 v4 = true then (if (x_i M (x_r M v0 16) v4.toNatClampNeg) = (2 : Int32) then (f_X9_parted_70 v0 v1 v2 v3 v4 v5 M) else (if (x_i M (x_r M v0 16) v3.toNatClampNeg) = 0 then (f_X9_parted_94 v0 v1 v2 v3 v4 v5 M) else (if (x_i M (x_r M v0 16) v4.toNatClampNeg) = 0 then (f_X9_parted_94 v0 v1 v2 v3 v4 v5 M) else (f_X9_parted_100 v0 v1 v2 v3 v4 v5 (0 : Int32) M)))) else none)) else none) else none)
set_option maxRecDepth 20000 in
set_option maxHeartbeats 4000000 in
theorem t_X9_parted_38 (l : Launch) {v0 : Nat} {v1 : Int32} {v2 : Int32} {v3 : Int32} {v4 : Int32} {v5 : Int32} {s0 : Int32} {M : XM} {q : Int32 × XM} (H : f_X9_parted_38 v0 v1 v2 v3 v4 v5 s0 M = some q) : AW l m_X9_parted 4 0 0 (x_Ri q) 0 0 38 [some (.ref v0), some (.int v1), some (.int v2), some (.int v3), some (.int v4), some (.int v5), none, none, none] [(.int s0)] M := by
  unfold f_X9_parted_38 at H
  refine x_istore 38 6 [some (.ref v0), some (.int v1), some (.int v2), some (.int v3), some (.int v4), some (.int v5), some (.int s0), none, none] dX9_parted_38 rfl (Nat.le_of_ble_eq_true rfl) rfl ?_
  refine x_iload 40 6 dX9_parted_40 rfl ?_
  refine x_if_ne 42 49 dX9_parted_42 (by decide) (fun c6 => ?_) (fun c6 => ?_)
  · replace H := x_ifn c6 H
    refine x_aload_n 49 0 dX9_parted_49 rfl rfl ?_
    obtain ⟨h44, H⟩ := x_ckp H
    refine x_getf 50 50 9 16 (.ref (x_r M v0 16)) dX9_parted_50 lk_1046 (by decide) (by decide) rfl (fun _ => rfl) h44 ?_
    refine x_iload_n 53 3 dX9_parted_53 rfl rfl ?_
    obtain ⟨h45, H⟩ := x_ckp H
    refine x_iald 54 dX9_parted_54 h45 ?_
    refine x_iconst 55 (2 : Int32) dX9_parted_55 (by decide) ?_
    refine x_icmp_eq 56 70 dX9_parted_56 (by decide) (fun c46 => ?_) (fun c46 => ?_)
    · replace H := x_ifp c46 H
      exact x_wk (le_s (le_s (le_s (le_s (le_s (le_s (le_n (le_s (le_s le_0))))))))) (t_X9_parted_70 l H)
    · replace H := x_ifn c46 H
      refine x_aload_n 59 0 dX9_parted_59 rfl rfl ?_
      refine x_getf 60 50 9 16 (.ref (x_r M v0 16)) dX9_parted_60 lk_1046 (by decide) (by decide) rfl (fun _ => rfl) h44 ?_
      refine x_iload 63 4 dX9_parted_63 rfl ?_
      obtain ⟨h47, H⟩ := x_ckp H
      refine x_iald 65 dX9_parted_65 h47 ?_
      refine x_iconst 66 (2 : Int32) dX9_parted_66 (by decide) ?_
      refine x_icmp_ne 67 75 dX9_parted_67 (by decide) (fun c48 => ?_) (fun c48 => ?_)
      · replace H := x_ifn c48 H
        refine x_aload_n 75 0 dX9_parted_75 rfl rfl ?_
        refine x_getf 76 50 9 16 (.ref (x_r M v0 16)) dX9_parted_76 lk_1046 (by decide) (by decide) rfl (fun _ => rfl) h44 ?_
        refine x_iload_n 79 3 dX9_parted_79 rfl rfl ?_
        refine x_iald 80 dX9_parted_80 h45 ?_
        refine x_if_eq 81 94 dX9_parted_81 (by decide) (fun c49 => ?_) (fun c49 => ?_)
        · replace H := x_ifp c49 H
          exact x_wk (le_s (le_s (le_s (le_s (le_s (le_s (le_n (le_s (le_s le_0))))))))) (t_X9_parted_94 l H)
        · replace H := x_ifn c49 H
          refine x_aload_n 84 0 dX9_parted_84 rfl rfl ?_
          refine x_getf 85 50 9 16 (.ref (x_r M v0 16)) dX9_parted_85 lk_1046 (by decide) (by decide) rfl (fun _ => rfl) h44 ?_
          refine x_iload 88 4 dX9_parted_88 rfl ?_
          refine x_iald 90 dX9_parted_90 h47 ?_
          refine x_if_ne 91 99 dX9_parted_91 (by decide) (fun c50 => ?_) (fun c50 => ?_)
          · replace H := x_ifn c50 H
            refine x_iconst 99 (0 : Int32) dX9_parted_99 (by decide) ?_
            exact x_wk (le_s (le_s (le_s (le_s (le_s (le_s (le_n (le_s (le_s le_0))))))))) (t_X9_parted_100 l H)
          · replace H := x_ifp c50 H
            exact x_wk (le_s (le_s (le_s (le_s (le_s (le_s (le_n (le_s (le_s le_0))))))))) (t_X9_parted_94 l H)
      · replace H := x_ifp c48 H
        exact x_wk (le_s (le_s (le_s (le_s (le_s (le_s (le_n (le_s (le_s le_0))))))))) (t_X9_parted_70 l H)
  · replace H := x_ifp c6 H
    refine x_iconst 45 (-1 : Int32) dX9_parted_45 (by decide) ?_
    refine x_goto 46 100 dX9_parted_46 (by decide) ?_
    exact x_wk (le_s (le_s (le_s (le_s (le_s (le_s (le_n (le_s (le_s le_0))))))))) (t_X9_parted_100 l H)

def f_X9_parted_37 (v0 : Nat) (v1 : Int32) (v2 : Int32) (v3 : Int32) (v4 : Int32) (v5 : Int32) (M : XM) : Option (Int32 × XM) :=
  f_X9_parted_38 v0 v1 v2 v3 v4 v5 (0 : Int32) M
set_option maxRecDepth 20000 in
set_option maxHeartbeats 4000000 in
theorem t_X9_parted_37 (l : Launch) {v0 : Nat} {v1 : Int32} {v2 : Int32} {v3 : Int32} {v4 : Int32} {v5 : Int32} {M : XM} {q : Int32 × XM} (H : f_X9_parted_37 v0 v1 v2 v3 v4 v5 M = some q) : AW l m_X9_parted 4 0 0 (x_Ri q) 0 0 37 [some (.ref v0), some (.int v1), some (.int v2), some (.int v3), some (.int v4), some (.int v5), none, none, none] [] M := by
  unfold f_X9_parted_37 at H
  refine x_iconst 37 (0 : Int32) dX9_parted_37 (by decide) ?_
  exact t_X9_parted_38 l H

def f_X9_parted_c27 (v0 : Nat) (v1 : Int32) (v2 : Int32) (v3 : Int32) (v4 : Int32) (v5 : Int32) (s0 : Int32) (M : XM) : Option (Int32 × XM) :=
  if s0 = 0 then (f_X9_parted_37 v0 v1 v2 v3 v4 v5 M) else (f_X9_parted_38 v0 v1 v2 v3 v4 v5 (1 : Int32) M)
set_option maxRecDepth 20000 in
set_option maxHeartbeats 4000000 in
theorem t_X9_parted_c27 (l : Launch) {v0 : Nat} {v1 : Int32} {v2 : Int32} {v3 : Int32} {v4 : Int32} {v5 : Int32} {s0 : Int32} {M : XM} {q : Int32 × XM} (H : f_X9_parted_c27 v0 v1 v2 v3 v4 v5 s0 M = some q) : AW l m_X9_parted 4 0 0 (x_Ri q) 0 0 30 [some (.ref v0), some (.int v1), some (.int v2), some (.int v3), some (.int v4), some (.int v5), none, none, none] [(.int s0)] M := by
  unfold f_X9_parted_c27 at H
  refine x_if_eq 30 37 dX9_parted_30 (by decide) (fun c65 => ?_) (fun c65 => ?_)
  · replace H := x_ifp c65 H
    exact t_X9_parted_37 l H
  · replace H := x_ifn c65 H
    refine x_iconst 33 (1 : Int32) dX9_parted_33 (by decide) ?_
    refine x_goto 34 38 dX9_parted_34 (by decide) ?_
    exact t_X9_parted_38 l H

def f_X9_parted_c18 (v0 : Nat) (v1 : Int32) (v2 : Int32) (v3 : Int32) (v4 : Int32) (v5 : Int32) (s0 : Int32) (M : XM) : Option (Int32 × XM) :=
  if s0 = 0 then (f_X9_parted_37 v0 v1 v2 v3 v4 v5 M) else (if x_tag M v0 = 9 + 10 then (x_bd (f_X9_isShelf v0 v4 M) (f_X9_parted_c27 v0 v1 v2 v3 v4 v5)) else none)
set_option maxRecDepth 20000 in
set_option maxHeartbeats 4000000 in
theorem t_X9_parted_c18 (l : Launch) {v0 : Nat} {v1 : Int32} {v2 : Int32} {v3 : Int32} {v4 : Int32} {v5 : Int32} {s0 : Int32} {M : XM} {q : Int32 × XM} (H : f_X9_parted_c18 v0 v1 v2 v3 v4 v5 s0 M = some q) : AW l m_X9_parted 4 0 0 (x_Ri q) 0 0 21 [some (.ref v0), some (.int v1), some (.int v2), some (.int v3), some (.int v4), some (.int v5), none, none, none] [(.int s0)] M := by
  unfold f_X9_parted_c18 at H
  refine x_if_eq 21 37 dX9_parted_21 (by decide) (fun c60 => ?_) (fun c60 => ?_)
  · replace H := x_ifp c60 H
    exact t_X9_parted_37 l H
  · replace H := x_ifn c60 H
    refine x_aload_n 24 0 dX9_parted_24 rfl rfl ?_
    refine x_iload 25 4 dX9_parted_25 rfl ?_
    obtain ⟨h61, H⟩ := x_ckp H
    obtain ⟨r63, M62, e64, H⟩ := x_bd_of H
    refine x_callV 27 96 9 [(.int v4)] [] dX9_parted_27 (ct_X9_isShelf l e64) lk_1161 lk_1163 lk_36 (by decide) h61 lk_94 lk_1164 ⟨cn_X9_isShelf, (by decide), by decide⟩ rfl (Nat.le_of_ble_eq_true rfl) (Nat.le_of_ble_eq_true rfl) (Nat.le_of_ble_eq_true rfl) (x_ri ?_)
    exact t_X9_parted_c27 l H

def f_X9_parted_c10 (v0 : Nat) (v1 : Int32) (v2 : Int32) (v3 : Int32) (v4 : Int32) (v5 : Int32) (s0 : Int32) (M : XM) : Option (Int32 × XM) :=
  if s0 = 0 then (f_X9_parted_37 v0 v1 v2 v3 v4 v5 M) else (if x_tag M v0 = 9 + 10 then (x_bd (f_X9_isShelf v0 v3 M) (f_X9_parted_c18 v0 v1 v2 v3 v4 v5)) else none)
set_option maxRecDepth 20000 in
set_option maxHeartbeats 4000000 in
theorem t_X9_parted_c10 (l : Launch) {v0 : Nat} {v1 : Int32} {v2 : Int32} {v3 : Int32} {v4 : Int32} {v5 : Int32} {s0 : Int32} {M : XM} {q : Int32 × XM} (H : f_X9_parted_c10 v0 v1 v2 v3 v4 v5 s0 M = some q) : AW l m_X9_parted 4 0 0 (x_Ri q) 0 0 13 [some (.ref v0), some (.int v1), some (.int v2), some (.int v3), some (.int v4), some (.int v5), none, none, none] [(.int s0)] M := by
  unfold f_X9_parted_c10 at H
  refine x_if_eq 13 37 dX9_parted_13 (by decide) (fun c55 => ?_) (fun c55 => ?_)
  · replace H := x_ifp c55 H
    exact t_X9_parted_37 l H
  · replace H := x_ifn c55 H
    refine x_aload_n 16 0 dX9_parted_16 rfl rfl ?_
    refine x_iload_n 17 3 dX9_parted_17 rfl rfl ?_
    obtain ⟨h56, H⟩ := x_ckp H
    obtain ⟨r58, M57, e59, H⟩ := x_bd_of H
    refine x_callV 18 96 9 [(.int v3)] [] dX9_parted_18 (ct_X9_isShelf l e59) lk_1161 lk_1163 lk_36 (by decide) h56 lk_94 lk_1164 ⟨cn_X9_isShelf, (by decide), by decide⟩ rfl (Nat.le_of_ble_eq_true rfl) (Nat.le_of_ble_eq_true rfl) (Nat.le_of_ble_eq_true rfl) (x_ri ?_)
    exact t_X9_parted_c18 l H

def f_X9_parted_c2 (v0 : Nat) (v1 : Int32) (v2 : Int32) (v3 : Int32) (v4 : Int32) (v5 : Int32) (s0 : Int32) (M : XM) : Option (Int32 × XM) :=
  if s0 = 0 then (f_X9_parted_37 v0 v1 v2 v3 v4 v5 M) else (if x_tag M v0 = 9 + 10 then (x_bd (f_X9_isCounter v0 v2 M) (f_X9_parted_c10 v0 v1 v2 v3 v4 v5)) else none)
set_option maxRecDepth 20000 in
set_option maxHeartbeats 4000000 in
theorem t_X9_parted_c2 (l : Launch) {v0 : Nat} {v1 : Int32} {v2 : Int32} {v3 : Int32} {v4 : Int32} {v5 : Int32} {s0 : Int32} {M : XM} {q : Int32 × XM} (H : f_X9_parted_c2 v0 v1 v2 v3 v4 v5 s0 M = some q) : AW l m_X9_parted 4 0 0 (x_Ri q) 0 0 5 [some (.ref v0), some (.int v1), some (.int v2), some (.int v3), some (.int v4), some (.int v5), none, none, none] [(.int s0)] M := by
  unfold f_X9_parted_c2 at H
  refine x_if_eq 5 37 dX9_parted_5 (by decide) (fun c5 => ?_) (fun c5 => ?_)
  · replace H := x_ifp c5 H
    exact t_X9_parted_37 l H
  · replace H := x_ifn c5 H
    refine x_aload_n 8 0 dX9_parted_8 rfl rfl ?_
    refine x_iload_n 9 2 dX9_parted_9 rfl rfl ?_
    obtain ⟨h51, H⟩ := x_ckp H
    obtain ⟨r53, M52, e54, H⟩ := x_bd_of H
    refine x_callV 10 104 9 [(.int v2)] [] dX9_parted_10 (ct_X9_isCounter l e54) lk_1185 lk_1187 lk_38 (by decide) h51 lk_94 lk_1188 ⟨cn_X9_isCounter, (by decide), by decide⟩ rfl (Nat.le_of_ble_eq_true rfl) (Nat.le_of_ble_eq_true rfl) (Nat.le_of_ble_eq_true rfl) (x_ri ?_)
    exact t_X9_parted_c10 l H

def f_X9_parted (v0 : Nat) (v1 : Int32) (v2 : Int32) (v3 : Int32) (v4 : Int32) (v5 : Int32) (M : XM) : Option (Int32 × XM) :=
  if x_tag M v0 = 9 + 10 then (x_bd (f_X9_isCounter v0 v1 M) (f_X9_parted_c2 v0 v1 v2 v3 v4 v5)) else none
set_option maxRecDepth 20000 in
set_option maxHeartbeats 4000000 in
theorem t_X9_parted (l : Launch) {v0 : Nat} {v1 : Int32} {v2 : Int32} {v3 : Int32} {v4 : Int32} {v5 : Int32} {M : XM} {q : Int32 × XM} (H : f_X9_parted v0 v1 v2 v3 v4 v5 M = some q) : AW l m_X9_parted 4 0 0 (x_Ri q) 0 0 0 [some (.ref v0), some (.int v1), some (.int v2), some (.int v3), some (.int v4), some (.int v5), none, none, none] [] M := by
  unfold f_X9_parted at H
  refine x_aload_n 0 0 dX9_parted_0 rfl rfl ?_
  refine x_iload_n 1 1 dX9_parted_1 rfl rfl ?_
  obtain ⟨h1, H⟩ := x_ckp H
  obtain ⟨r3, M2, e4, H⟩ := x_bd_of H
  refine x_callV 2 104 9 [(.int v1)] [] dX9_parted_2 (ct_X9_isCounter l e4) lk_1185 lk_1187 lk_38 (by decide) h1 lk_94 lk_1188 ⟨cn_X9_isCounter, (by decide), by decide⟩ rfl (Nat.le_of_ble_eq_true rfl) (Nat.le_of_ble_eq_true rfl) (Nat.le_of_ble_eq_true rfl) (x_ri ?_)
  exact t_X9_parted_c2 l H

theorem ct_X9_parted (l : Launch) {v0 : Nat} {v1 : Int32} {v2 : Int32} {v3 : Int32} {v4 : Int32} {v5 : Int32} {M : XM} {q : Int32 × XM} (H : f_X9_parted v0 v1 v2 v3 v4 v5 M = some q) : Ct l m_X9_parted 4 0 0 [(.ref v0), (.int v1), (.int v2), (.int v3), (.int v4), (.int v5)] M (x_Ri q) := x_met l m_X9_parted 4 0 0 [(.ref v0), (.int v1), (.int v2), (.int v3), (.int v4), (.int v5)] M (x_Ri q) _ rfl rfl (Nat.le_of_ble_eq_true rfl) (t_X9_parted l H)
abbrev m_X9_tally : XU := (yX9_tally, cX9_tally, 2, (some .int))
theorem cn_X9_tally : m_X9_tally.1.cls ≠ "java/lang/invoke/MethodHandle" ∧ m_X9_tally.1.cls ≠ "java/lang/invoke/VarHandle" ∧ (parseMethodDescriptor m_X9_tally.1.desc).map (fun q => q.parameters.length) = some 1 := by decide +kernel
def f_X9_tally_11 (v0 : Nat) (M : XM) : Option (Int32 × XM) :=
  if x_tag M v0 = 9 + 10 then (x_bd (f_X9_no v0 (-6 : Int32) M) (fun r4 M3 => some (r4, M3))) else none
set_option maxRecDepth 20000 in
set_option maxHeartbeats 4000000 in
theorem t_X9_tally_11 (l : Launch) {v0 : Nat} {M : XM} {q : Int32 × XM} (H : f_X9_tally_11 v0 M = some q) : AW l m_X9_tally 2 0 0 (x_Ri q) 0 0 11 [some (.ref v0), none] [] M := by
  unfold f_X9_tally_11 at H
  refine x_aload_n 11 0 dX9_tally_11 rfl rfl ?_
  refine x_bipush 12 (-6 : Int32) dX9_tally_12 (by decide) ?_
  obtain ⟨h2, H⟩ := x_ckp H
  obtain ⟨r4, M3, e5, H⟩ := x_bd_of H
  refine x_callV 14 100 9 [(.int (-6 : Int32))] [] dX9_tally_14 (ct_X9_no l e5) lk_1165 lk_1167 lk_37 (by decide) h2 lk_94 lk_1168 ⟨cn_X9_no, (by decide), by decide⟩ rfl (Nat.le_of_ble_eq_true rfl) (Nat.le_of_ble_eq_true rfl) (Nat.le_of_ble_eq_true rfl) (x_ri ?_)
  cases H
  exact x_iret 17 dX9_tally_17 .int rfl rfl (Nat.le_of_ble_eq_true rfl) (Nat.le_of_ble_eq_true rfl) ⟨rfl, rfl⟩

def f_X9_tally (v0 : Nat) (v1 : Int32) (M : XM) : Option (Int32 × XM) :=
  if v1 < 0 then (f_X9_tally_11 v0 M) else (if v1 ≤ (9999 : Int32) then (if x_tag M v0 = 9 + 10 then (if (x_i M v0 6) = (8 : Int32) then (x_bd (f_X9_no v0 (-7 : Int32) M) (fun r10 M9 => some (r10, M9))) else (if x_at M (x_r M v0 15) 1 (x_i M v0 6) = true then (x_lt (x_wi M (x_r M v0 15) (x_i M v0 6).toNatClampNeg v1) (fun M13 => x_lt (x_wi M13 v0 6 ((x_i M13 v0 6) + (1 : Int32))) (fun M18 => some ((x_i M18 v0 6), M18)))) else none)) else none) else (f_X9_tally_11 v0 M))
set_option maxRecDepth 20000 in
set_option maxHeartbeats 4000000 in
theorem t_X9_tally (l : Launch) {v0 : Nat} {v1 : Int32} {M : XM} {q : Int32 × XM} (H : f_X9_tally v0 v1 M = some q) : AW l m_X9_tally 2 0 0 (x_Ri q) 0 0 0 [some (.ref v0), some (.int v1)] [] M := by
  unfold f_X9_tally at H
  refine x_iload_n 0 1 dX9_tally_0 rfl rfl ?_
  refine x_if_lt 1 11 dX9_tally_1 (by decide) (fun c1 => ?_) (fun c1 => ?_)
  · replace H := x_ifp c1 H
    exact x_wk (le_s (le_n le_0)) (t_X9_tally_11 l H)
  · replace H := x_ifn c1 H
    refine x_iload_n 4 1 dX9_tally_4 rfl rfl ?_
    refine x_sipush 5 (9999 : Int32) dX9_tally_5 (by decide) ?_
    refine x_icmp_le 8 18 dX9_tally_8 (by decide) (fun c6 => ?_) (fun c6 => ?_)
    · replace H := x_ifp c6 H
      refine x_aload_n 18 0 dX9_tally_18 rfl rfl ?_
      obtain ⟨h7, H⟩ := x_ckp H
      refine x_getf 19 150 9 6 (.int (x_i M v0 6)) dX9_tally_19 lk_1036 (by decide) (by decide) rfl (fun _ => rfl) h7 ?_
      refine x_bipush 22 (8 : Int32) dX9_tally_22 (by decide) ?_
      refine x_icmp_ne 24 34 dX9_tally_24 (by decide) (fun c8 => ?_) (fun c8 => ?_)
      · replace H := x_ifn c8 H
        refine x_aload_n 34 0 dX9_tally_34 rfl rfl ?_
        refine x_getf 35 47 9 15 (.ref (x_r M v0 15)) dX9_tally_35 lk_1045 (by decide) (by decide) rfl (fun _ => rfl) h7 ?_
        refine x_aload_n 38 0 dX9_tally_38 rfl rfl ?_
        refine x_getf 39 150 9 6 (.int (x_i M v0 6)) dX9_tally_39 lk_1036 (by decide) (by decide) rfl (fun _ => rfl) h7 ?_
        refine x_iload_n 42 1 dX9_tally_42 rfl rfl ?_
        obtain ⟨h12, H⟩ := x_ckp H
        obtain ⟨M13, w14, H⟩ := x_lt_of H
        have h15 : x_tag M13 v0 = 9 + 10 := by rw [w14]; exact h7
        have h16 : x_at M13 (x_r M v0 15) 1 (x_i M v0 6) = true := by rw [w14]; exact h12
        have h17 : x_tag M13 (x_r M v0 15) = 1 := by rw [w14]; exact (x_at_1 h12)
        refine x_iast' 43 dX9_tally_43 h12 w14 ?_
        refine x_aload_n 44 0 dX9_tally_44 rfl rfl ?_
        refine x_dup 45 dX9_tally_45 rfl ?_
        refine x_getf 46 150 9 6 (.int (x_i M13 v0 6)) dX9_tally_46 lk_1036 (by decide) (by decide) rfl (fun _ => rfl) h15 ?_
        refine x_iconst 49 (1 : Int32) dX9_tally_49 (by decide) ?_
        refine x_iadd 50 dX9_tally_50 ?_
        obtain ⟨M18, w19, H⟩ := x_lt_of H
        have h20 : x_tag M18 v0 = 9 + 10 := by rw [w19]; exact h15
        have h21 : x_at M18 (x_r M v0 15) 1 (x_i M v0 6) = true := by rw [w19]; exact h16
        have h22 : x_tag M18 (x_r M v0 15) = 1 := by rw [w19]; exact h17
        refine x_putI' 51 150 9 6 dX9_tally_51 lk_1036 (by decide) (by decide) rfl (Or.inl rfl) (Or.inl rfl) h15 w19 ?_
        refine x_aload_n 54 0 dX9_tally_54 rfl rfl ?_
        refine x_getf 55 150 9 6 (.int (x_i M18 v0 6)) dX9_tally_55 lk_1036 (by decide) (by decide) rfl (fun _ => rfl) h20 ?_
        cases H
        exact x_iret 58 dX9_tally_58 .int rfl rfl (Nat.le_of_ble_eq_true rfl) (Nat.le_of_ble_eq_true rfl) ⟨rfl, rfl⟩
      · replace H := x_ifp c8 H
        refine x_aload_n 27 0 dX9_tally_27 rfl rfl ?_
        refine x_bipush 28 (-7 : Int32) dX9_tally_28 (by decide) ?_
        obtain ⟨r10, M9, e11, H⟩ := x_bd_of H
        refine x_callV 30 100 9 [(.int (-7 : Int32))] [] dX9_tally_30 (ct_X9_no l e11) lk_1165 lk_1167 lk_37 (by decide) h7 lk_94 lk_1168 ⟨cn_X9_no, (by decide), by decide⟩ rfl (Nat.le_of_ble_eq_true rfl) (Nat.le_of_ble_eq_true rfl) (Nat.le_of_ble_eq_true rfl) (x_ri ?_)
        cases H
        exact x_iret 33 dX9_tally_33 .int rfl rfl (Nat.le_of_ble_eq_true rfl) (Nat.le_of_ble_eq_true rfl) ⟨rfl, rfl⟩
    · replace H := x_ifn c6 H
      exact x_wk (le_s (le_n le_0)) (t_X9_tally_11 l H)

theorem ct_X9_tally (l : Launch) {v0 : Nat} {v1 : Int32} {M : XM} {q : Int32 × XM} (H : f_X9_tally v0 v1 M = some q) : Ct l m_X9_tally 2 0 0 [(.ref v0), (.int v1)] M (x_Ri q) := x_met l m_X9_tally 2 0 0 [(.ref v0), (.int v1)] M (x_Ri q) _ rfl rfl (Nat.le_of_ble_eq_true rfl) (t_X9_tally l H)
abbrev m_X9_haveIt : XU := (yX9_haveIt, cX9_haveIt, 4, (some .int))
theorem cn_X9_haveIt : m_X9_haveIt.1.cls ≠ "java/lang/invoke/MethodHandle" ∧ m_X9_haveIt.1.cls ≠ "java/lang/invoke/VarHandle" ∧ (parseMethodDescriptor m_X9_haveIt.1.desc).map (fun q => q.parameters.length) = some 1 := by decide +kernel
def f_X9_haveIt_25 (κ4 : Nat → Int32 → Int32 → Int32 → XM → Option (Int32 × XM)) (v0 : Nat) (v1 : Int32) (v2 : Int32) (v3 : Int32) (M : XM) : Option (Int32 × XM) :=
  κ4 v0 v1 v2 (v3 + (1 : Int32)) M
set_option maxRecDepth 20000 in
set_option maxHeartbeats 4000000 in
theorem t_X9_haveIt_25 (l : Launch) {κ4 : Nat → Int32 → Int32 → Int32 → XM → Option (Int32 × XM)} {v0 : Nat} {v1 : Int32} {v2 : Int32} {v3 : Int32} {M : XM} {q : Int32 × XM} (hκ4 : ∀ (v0 : Nat) (v1 : Int32) (v2 : Int32) (v3 : Int32) (M : XM), κ4 v0 v1 v2 v3 M = some q → AW l m_X9_haveIt 1 0 0 (x_Ri q) 0 0 4 [some (.ref v0), some (.int v1), some (.int v2), some (.int v3)] [] M) (H : f_X9_haveIt_25 κ4 v0 v1 v2 v3 M = some q) : AW l m_X9_haveIt 1 0 0 (x_Ri q) 0 0 25 [some (.ref v0), some (.int v1), some (.int v2), some (.int v3)] [] M := by
  unfold f_X9_haveIt_25 at H
  refine x_iinc 25 3 (v3 + (1 : Int32)) [some (.ref v0), some (.int v1), some (.int v2), some (.int (v3 + (1 : Int32)))] dX9_haveIt_25 rfl (congrArg (fun z : Int32 => v3 + z) (show Int32.ofInt (1) = (1 : Int32) by decide)) rfl (Nat.le_of_ble_eq_true rfl) rfl ?_
  refine x_goto 28 4 dX9_haveIt_28 (by decide) ?_
  exact hκ4 _ _ _ _ _ H

def bd_X9_haveIt_4 (κ4 : Nat → Int32 → Int32 → Int32 → XM → Option (Int32 × XM)) (v0 : Nat) (v1 : Int32) (v2 : Int32) (v3 : Int32) (M : XM) : Option (Int32 × XM) :=
  if x_tag M v0 = 9 + 10 then (if (x_i M v0 6) ≤ v3 then (some (v2, M)) else (if x_at M (x_r M v0 15) 1 v3 = true then (if (x_i M (x_r M v0 15) v3.toNatClampNeg) = v1 then (f_X9_haveIt_25 κ4 v0 v1 (v2 + (1 : Int32)) v3 M) else (f_X9_haveIt_25 κ4 v0 v1 v2 v3 M)) else none)) else none
set_option maxRecDepth 20000 in
set_option maxHeartbeats 4000000 in
theorem tb_X9_haveIt_4 (l : Launch) {κ4 : Nat → Int32 → Int32 → Int32 → XM → Option (Int32 × XM)} {v0 : Nat} {v1 : Int32} {v2 : Int32} {v3 : Int32} {M : XM} {q : Int32 × XM} (hκ4 : ∀ (v0 : Nat) (v1 : Int32) (v2 : Int32) (v3 : Int32) (M : XM), κ4 v0 v1 v2 v3 M = some q → AW l m_X9_haveIt 1 0 0 (x_Ri q) 0 0 4 [some (.ref v0), some (.int v1), some (.int v2), some (.int v3)] [] M) (H : bd_X9_haveIt_4 κ4 v0 v1 v2 v3 M = some q) : AW l m_X9_haveIt 1 0 0 (x_Ri q) 0 0 4 [some (.ref v0), some (.int v1), some (.int v2), some (.int v3)] [] M := by
  unfold bd_X9_haveIt_4 at H
  refine x_iload_n 4 3 dX9_haveIt_4 rfl rfl ?_
  refine x_aload_n 5 0 dX9_haveIt_5 rfl rfl ?_
  obtain ⟨h1, H⟩ := x_ckp H
  refine x_getf 6 150 9 6 (.int (x_i M v0 6)) dX9_haveIt_6 lk_1036 (by decide) (by decide) rfl (fun _ => rfl) h1 ?_
  refine x_icmp_ge 9 31 dX9_haveIt_9 (by decide) (fun c2 => ?_) (fun c2 => ?_)
  · replace H := x_ifp c2 H
    refine x_iload_n 31 2 dX9_haveIt_31 rfl rfl ?_
    cases H
    exact x_iret 32 dX9_haveIt_32 .int rfl rfl (Nat.le_of_ble_eq_true rfl) (Nat.le_of_ble_eq_true rfl) ⟨rfl, rfl⟩
  · replace H := x_ifn c2 H
    refine x_aload_n 12 0 dX9_haveIt_12 rfl rfl ?_
    refine x_getf 13 47 9 15 (.ref (x_r M v0 15)) dX9_haveIt_13 lk_1045 (by decide) (by decide) rfl (fun _ => rfl) h1 ?_
    refine x_iload_n 16 3 dX9_haveIt_16 rfl rfl ?_
    obtain ⟨h3, H⟩ := x_ckp H
    refine x_iald 17 dX9_haveIt_17 h3 ?_
    refine x_iload_n 18 1 dX9_haveIt_18 rfl rfl ?_
    refine x_icmp_ne 19 25 dX9_haveIt_19 (by decide) (fun c4 => ?_) (fun c4 => ?_)
    · replace H := x_ifn c4 H
      exact t_X9_haveIt_25 l hκ4 H
    · replace H := x_ifp c4 H
      refine x_iinc 22 2 (v2 + (1 : Int32)) [some (.ref v0), some (.int v1), some (.int (v2 + (1 : Int32))), some (.int v3)] dX9_haveIt_22 rfl (congrArg (fun z : Int32 => v2 + z) (show Int32.ofInt (1) = (1 : Int32) by decide)) rfl (Nat.le_of_ble_eq_true rfl) rfl ?_
      exact t_X9_haveIt_25 l hκ4 H

def lp_X9_haveIt_4 (n : Nat) : Nat → Int32 → Int32 → Int32 → XM → Option (Int32 × XM) := x_rec (fun _ _ _ _ _ => none) (bd_X9_haveIt_4) n
theorem t_X9_haveIt_4 (l : Launch) {q : Int32 × XM} : ∀ (n : Nat) (v0 : Nat) (v1 : Int32) (v2 : Int32) (v3 : Int32) (M : XM), lp_X9_haveIt_4 n v0 v1 v2 v3 M = some q → AW l m_X9_haveIt 1 0 0 (x_Ri q) 0 0 4 [some (.ref v0), some (.int v1), some (.int v2), some (.int v3)] [] M := by
  intro n
  induction n with
  | zero => intro v0 v1 v2 v3 M H; cases H
  | succ n ih => intro v0 v1 v2 v3 M H; exact tb_X9_haveIt_4 l ih H
def f_X9_haveIt (v0 : Nat) (v1 : Int32) (M : XM) : Option (Int32 × XM) :=
  lp_X9_haveIt_4 x_fuel v0 v1 (0 : Int32) (0 : Int32) M
set_option maxRecDepth 20000 in
set_option maxHeartbeats 4000000 in
theorem t_X9_haveIt (l : Launch) {v0 : Nat} {v1 : Int32} {M : XM} {q : Int32 × XM} (H : f_X9_haveIt v0 v1 M = some q) : AW l m_X9_haveIt 1 0 0 (x_Ri q) 0 0 0 [some (.ref v0), some (.int v1), none, none] [] M := by
  unfold f_X9_haveIt at H
  refine x_iconst 0 (0 : Int32) dX9_haveIt_0 (by decide) ?_
  refine x_istore_n 1 2 [some (.ref v0), some (.int v1), some (.int (0 : Int32)), none] dX9_haveIt_1 rfl rfl (Nat.le_of_ble_eq_true rfl) rfl ?_
  refine x_iconst 2 (0 : Int32) dX9_haveIt_2 (by decide) ?_
  refine x_istore_n 3 3 [some (.ref v0), some (.int v1), some (.int (0 : Int32)), some (.int (0 : Int32))] dX9_haveIt_3 rfl rfl (Nat.le_of_ble_eq_true rfl) rfl ?_
  exact t_X9_haveIt_4 l _ _ _ _ _ _ H

theorem ct_X9_haveIt (l : Launch) {v0 : Nat} {v1 : Int32} {M : XM} {q : Int32 × XM} (H : f_X9_haveIt v0 v1 M = some q) : Ct l m_X9_haveIt 1 0 0 [(.ref v0), (.int v1)] M (x_Ri q) := x_met l m_X9_haveIt 1 0 0 [(.ref v0), (.int v1)] M (x_Ri q) _ rfl rfl (Nat.le_of_ble_eq_true rfl) (t_X9_haveIt l H)
theorem lk_1427 : Cond.code yX9_haveIt cX9_haveIt 4 (some .int) ∈ x_TB := x_tb (k := 1427) (by decide +kernel) rfl
theorem lk_1424 : Cond.methodLink RX9 258 yX9_haveIt ∈ x_TB := x_tb (k := 1424) (by decide +kernel) rfl
theorem lk_73 : Cond.selects RX9 yX9_haveIt yX9_haveIt ∈ x_TB := x_tb (k := 73) (by decide +kernel) rfl
theorem lk_1426 : Cond.instanceMethod yX9_haveIt ∈ x_TB := x_tb (k := 1426) (by decide +kernel) rfl
abbrev m_X9_truth : XU := (yX9_truth, cX9_truth, 3, (some .int))
theorem cn_X9_truth : m_X9_truth.1.cls ≠ "java/lang/invoke/MethodHandle" ∧ m_X9_truth.1.cls ≠ "java/lang/invoke/VarHandle" ∧ (parseMethodDescriptor m_X9_truth.1.desc).map (fun q => q.parameters.length) = some 0 := by decide +kernel
def f_X9_truth_56 (κ4 : Nat → Int32 → Int32 → XM → Option (Int32 × XM)) (v0 : Nat) (v1 : Int32) (v2 : Int32) (M : XM) : Option (Int32 × XM) :=
  κ4 v0 v1 (v2 + (1 : Int32)) M
set_option maxRecDepth 20000 in
set_option maxHeartbeats 4000000 in
theorem t_X9_truth_56 (l : Launch) {κ4 : Nat → Int32 → Int32 → XM → Option (Int32 × XM)} {v0 : Nat} {v1 : Int32} {v2 : Int32} {M : XM} {q : Int32 × XM} (hκ4 : ∀ (v0 : Nat) (v1 : Int32) (v2 : Int32) (M : XM), κ4 v0 v1 v2 M = some q → AW l m_X9_truth 2 0 0 (x_Ri q) 0 0 4 [some (.ref v0), some (.int v1), some (.int v2)] [] M) (H : f_X9_truth_56 κ4 v0 v1 v2 M = some q) : AW l m_X9_truth 2 0 0 (x_Ri q) 0 0 56 [some (.ref v0), some (.int v1), some (.int v2)] [] M := by
  unfold f_X9_truth_56 at H
  refine x_iinc 56 2 (v2 + (1 : Int32)) [some (.ref v0), some (.int v1), some (.int (v2 + (1 : Int32)))] dX9_truth_56 rfl (congrArg (fun z : Int32 => v2 + z) (show Int32.ofInt (1) = (1 : Int32) by decide)) rfl (Nat.le_of_ble_eq_true rfl) rfl ?_
  refine x_goto 59 4 dX9_truth_59 (by decide) ?_
  exact hκ4 _ _ _ _ H

def f_X9_truth_49 (κ4 : Nat → Int32 → Int32 → XM → Option (Int32 × XM)) (v0 : Nat) (v2 : Int32) (M : XM) : Option (Int32 × XM) :=
  if x_tag M v0 = 9 + 10 then (if x_at M (x_r M v0 15) 1 v2 = true then (f_X9_truth_56 κ4 v0 (x_i M (x_r M v0 15) v2.toNatClampNeg) v2 M) else none) else none
set_option maxRecDepth 20000 in
set_option maxHeartbeats 4000000 in
theorem t_X9_truth_49 (l : Launch) {κ4 : Nat → Int32 → Int32 → XM → Option (Int32 × XM)} {v0 : Nat} {v2 : Int32} {M : XM} {q : Int32 × XM} (hκ4 : ∀ (v0 : Nat) (v1 : Int32) (v2 : Int32) (M : XM), κ4 v0 v1 v2 M = some q → AW l m_X9_truth 2 0 0 (x_Ri q) 0 0 4 [some (.ref v0), some (.int v1), some (.int v2)] [] M) (H : f_X9_truth_49 κ4 v0 v2 M = some q) : AW l m_X9_truth 2 0 0 (x_Ri q) 0 0 49 [some (.ref v0), none, some (.int v2)] [] M := by
  unfold f_X9_truth_49 at H
  refine x_aload_n 49 0 dX9_truth_49 rfl rfl ?_
  obtain ⟨h10, H⟩ := x_ckp H
  refine x_getf 50 47 9 15 (.ref (x_r M v0 15)) dX9_truth_50 lk_1045 (by decide) (by decide) rfl (fun _ => rfl) h10 ?_
  refine x_iload_n 53 2 dX9_truth_53 rfl rfl ?_
  obtain ⟨h11, H⟩ := x_ckp H
  refine x_iald 54 dX9_truth_54 h11 ?_
  refine x_istore_n 55 1 [some (.ref v0), some (.int (x_i M (x_r M v0 15) v2.toNatClampNeg)), some (.int v2)] dX9_truth_55 rfl rfl (Nat.le_of_ble_eq_true rfl) rfl ?_
  exact t_X9_truth_56 l hκ4 H

def f_X9_truth_c19 (κ4 : Nat → Int32 → Int32 → XM → Option (Int32 × XM)) (v0 : Nat) (v1 : Int32) (v2 : Int32) (s0 : Int32) (M : XM) : Option (Int32 × XM) :=
  if x_tag M v0 = 9 + 10 then (if ((x_i M v0 6) - (1 : Int32)) ≤ s0 then (if v1 = (-1 : Int32) then (f_X9_truth_49 κ4 v0 v2 M) else (if x_at M (x_r M v0 15) 1 v2 = true then (if v1 ≤ (x_i M (x_r M v0 15) v2.toNatClampNeg) then (f_X9_truth_56 κ4 v0 v1 v2 M) else (f_X9_truth_49 κ4 v0 v2 M)) else none)) else (f_X9_truth_56 κ4 v0 v1 v2 M)) else none
set_option maxRecDepth 20000 in
set_option maxHeartbeats 4000000 in
theorem t_X9_truth_c19 (l : Launch) {κ4 : Nat → Int32 → Int32 → XM → Option (Int32 × XM)} {v0 : Nat} {v1 : Int32} {v2 : Int32} {s0 : Int32} {M : XM} {q : Int32 × XM} (hκ4 : ∀ (v0 : Nat) (v1 : Int32) (v2 : Int32) (M : XM), κ4 v0 v1 v2 M = some q → AW l m_X9_truth 2 0 0 (x_Ri q) 0 0 4 [some (.ref v0), some (.int v1), some (.int v2)] [] M) (H : f_X9_truth_c19 κ4 v0 v1 v2 s0 M = some q) : AW l m_X9_truth 2 0 0 (x_Ri q) 0 0 22 [some (.ref v0), some (.int v1), some (.int v2)] [(.int s0)] M := by
  unfold f_X9_truth_c19 at H
  refine x_aload_n 22 0 dX9_truth_22 rfl rfl ?_
  obtain ⟨h7, H⟩ := x_ckp H
  refine x_getf 23 150 9 6 (.int (x_i M v0 6)) dX9_truth_23 lk_1036 (by decide) (by decide) rfl (fun _ => rfl) h7 ?_
  refine x_iconst 26 (1 : Int32) dX9_truth_26 (by decide) ?_
  refine x_isub 27 dX9_truth_27 ?_
  refine x_icmp_ge 28 34 dX9_truth_28 (by decide) (fun c8 => ?_) (fun c8 => ?_)
  · replace H := x_ifp c8 H
    refine x_iload_n 34 1 dX9_truth_34 rfl rfl ?_
    refine x_iconst 35 (-1 : Int32) dX9_truth_35 (by decide) ?_
    refine x_icmp_eq 36 49 dX9_truth_36 (by decide) (fun c9 => ?_) (fun c9 => ?_)
    · replace H := x_ifp c9 H
      exact x_wk (le_s (le_n (le_s le_0))) (t_X9_truth_49 l hκ4 H)
    · replace H := x_ifn c9 H
      refine x_aload_n 39 0 dX9_truth_39 rfl rfl ?_
      refine x_getf 40 47 9 15 (.ref (x_r M v0 15)) dX9_truth_40 lk_1045 (by decide) (by decide) rfl (fun _ => rfl) h7 ?_
      refine x_iload_n 43 2 dX9_truth_43 rfl rfl ?_
      obtain ⟨h12, H⟩ := x_ckp H
      refine x_iald 44 dX9_truth_44 h12 ?_
      refine x_iload_n 45 1 dX9_truth_45 rfl rfl ?_
      refine x_icmp_ge 46 56 dX9_truth_46 (by decide) (fun c13 => ?_) (fun c13 => ?_)
      · replace H := x_ifp c13 H
        exact t_X9_truth_56 l hκ4 H
      · replace H := x_ifn c13 H
        exact x_wk (le_s (le_n (le_s le_0))) (t_X9_truth_49 l hκ4 H)
  · replace H := x_ifn c8 H
    refine x_goto 31 56 dX9_truth_31 (by decide) ?_
    exact t_X9_truth_56 l hκ4 H

def bd_X9_truth_4 (κ4 : Nat → Int32 → Int32 → XM → Option (Int32 × XM)) (v0 : Nat) (v1 : Int32) (v2 : Int32) (M : XM) : Option (Int32 × XM) :=
  if x_tag M v0 = 9 + 10 then (if (x_i M v0 6) ≤ v2 then (some (v1, M)) else (if x_at M (x_r M v0 15) 1 v2 = true then (x_bd (f_X9_haveIt v0 (x_i M (x_r M v0 15) v2.toNatClampNeg) M) (f_X9_truth_c19 κ4 v0 v1 v2)) else none)) else none
set_option maxRecDepth 20000 in
set_option maxHeartbeats 4000000 in
theorem tb_X9_truth_4 (l : Launch) {κ4 : Nat → Int32 → Int32 → XM → Option (Int32 × XM)} {v0 : Nat} {v1 : Int32} {v2 : Int32} {M : XM} {q : Int32 × XM} (hκ4 : ∀ (v0 : Nat) (v1 : Int32) (v2 : Int32) (M : XM), κ4 v0 v1 v2 M = some q → AW l m_X9_truth 2 0 0 (x_Ri q) 0 0 4 [some (.ref v0), some (.int v1), some (.int v2)] [] M) (H : bd_X9_truth_4 κ4 v0 v1 v2 M = some q) : AW l m_X9_truth 2 0 0 (x_Ri q) 0 0 4 [some (.ref v0), some (.int v1), some (.int v2)] [] M := by
  unfold bd_X9_truth_4 at H
  refine x_iload_n 4 2 dX9_truth_4 rfl rfl ?_
  refine x_aload_n 5 0 dX9_truth_5 rfl rfl ?_
  obtain ⟨h1, H⟩ := x_ckp H
  refine x_getf 6 150 9 6 (.int (x_i M v0 6)) dX9_truth_6 lk_1036 (by decide) (by decide) rfl (fun _ => rfl) h1 ?_
  refine x_icmp_ge 9 62 dX9_truth_9 (by decide) (fun c2 => ?_) (fun c2 => ?_)
  · replace H := x_ifp c2 H
    refine x_iload_n 62 1 dX9_truth_62 rfl rfl ?_
    cases H
    exact x_iret 63 dX9_truth_63 .int rfl rfl (Nat.le_of_ble_eq_true rfl) (Nat.le_of_ble_eq_true rfl) ⟨rfl, rfl⟩
  · replace H := x_ifn c2 H
    refine x_aload_n 12 0 dX9_truth_12 rfl rfl ?_
    refine x_aload_n 13 0 dX9_truth_13 rfl rfl ?_
    refine x_getf 14 47 9 15 (.ref (x_r M v0 15)) dX9_truth_14 lk_1045 (by decide) (by decide) rfl (fun _ => rfl) h1 ?_
    refine x_iload_n 17 2 dX9_truth_17 rfl rfl ?_
    obtain ⟨h3, H⟩ := x_ckp H
    refine x_iald 18 dX9_truth_18 h3 ?_
    obtain ⟨r5, M4, e6, H⟩ := x_bd_of H
    refine x_callV 19 258 9 [(.int (x_i M (x_r M v0 15) v2.toNatClampNeg))] [] dX9_truth_19 (ct_X9_haveIt l e6) lk_1424 lk_1426 lk_73 (by decide) h1 lk_94 lk_1427 ⟨cn_X9_haveIt, (by decide), by decide⟩ rfl (Nat.le_of_ble_eq_true rfl) (Nat.le_of_ble_eq_true rfl) (Nat.le_of_ble_eq_true rfl) (x_ri ?_)
    exact t_X9_truth_c19 l hκ4 H

def lp_X9_truth_4 (n : Nat) : Nat → Int32 → Int32 → XM → Option (Int32 × XM) := x_rec (fun _ _ _ _ => none) (bd_X9_truth_4) n
theorem t_X9_truth_4 (l : Launch) {q : Int32 × XM} : ∀ (n : Nat) (v0 : Nat) (v1 : Int32) (v2 : Int32) (M : XM), lp_X9_truth_4 n v0 v1 v2 M = some q → AW l m_X9_truth 2 0 0 (x_Ri q) 0 0 4 [some (.ref v0), some (.int v1), some (.int v2)] [] M := by
  intro n
  induction n with
  | zero => intro v0 v1 v2 M H; cases H
  | succ n ih => intro v0 v1 v2 M H; exact tb_X9_truth_4 l ih H
def f_X9_truth (v0 : Nat) (M : XM) : Option (Int32 × XM) :=
  lp_X9_truth_4 x_fuel v0 (-1 : Int32) (0 : Int32) M
set_option maxRecDepth 20000 in
set_option maxHeartbeats 4000000 in
theorem t_X9_truth (l : Launch) {v0 : Nat} {M : XM} {q : Int32 × XM} (H : f_X9_truth v0 M = some q) : AW l m_X9_truth 2 0 0 (x_Ri q) 0 0 0 [some (.ref v0), none, none] [] M := by
  unfold f_X9_truth at H
  refine x_iconst 0 (-1 : Int32) dX9_truth_0 (by decide) ?_
  refine x_istore_n 1 1 [some (.ref v0), some (.int (-1 : Int32)), none] dX9_truth_1 rfl rfl (Nat.le_of_ble_eq_true rfl) rfl ?_
  refine x_iconst 2 (0 : Int32) dX9_truth_2 (by decide) ?_
  refine x_istore_n 3 2 [some (.ref v0), some (.int (-1 : Int32)), some (.int (0 : Int32))] dX9_truth_3 rfl rfl (Nat.le_of_ble_eq_true rfl) rfl ?_
  exact t_X9_truth_4 l _ _ _ _ _ H

theorem ct_X9_truth (l : Launch) {v0 : Nat} {M : XM} {q : Int32 × XM} (H : f_X9_truth v0 M = some q) : Ct l m_X9_truth 2 0 0 [(.ref v0)] M (x_Ri q) := x_met l m_X9_truth 2 0 0 [(.ref v0)] M (x_Ri q) _ rfl rfl (Nat.le_of_ble_eq_true rfl) (t_X9_truth l H)
abbrev m_X9_liar : XU := (yX9_liar, cX9_liar, 3, (some .int))
theorem cn_X9_liar : m_X9_liar.1.cls ≠ "java/lang/invoke/MethodHandle" ∧ m_X9_liar.1.cls ≠ "java/lang/invoke/VarHandle" ∧ (parseMethodDescriptor m_X9_liar.1.desc).map (fun q => q.parameters.length) = some 0 := by decide +kernel
def f_X9_liar_59 (κ2 : Nat → Int32 → XM → Option (Int32 × XM)) (v0 : Nat) (v1 : Int32) (M : XM) : Option (Int32 × XM) :=
  κ2 v0 (v1 + (1 : Int32)) M
set_option maxRecDepth 20000 in
set_option maxHeartbeats 4000000 in
theorem t_X9_liar_59 (l : Launch) {κ2 : Nat → Int32 → XM → Option (Int32 × XM)} {v0 : Nat} {v1 : Int32} {M : XM} {q : Int32 × XM} (hκ2 : ∀ (v0 : Nat) (v1 : Int32) (M : XM), κ2 v0 v1 M = some q → AW l m_X9_liar 2 0 0 (x_Ri q) 0 0 2 [some (.ref v0), some (.int v1), none] [] M) (H : f_X9_liar_59 κ2 v0 v1 M = some q) : AW l m_X9_liar 2 0 0 (x_Ri q) 0 0 59 [some (.ref v0), some (.int v1), none] [] M := by
  unfold f_X9_liar_59 at H
  refine x_iinc 59 1 (v1 + (1 : Int32)) [some (.ref v0), some (.int (v1 + (1 : Int32))), none] dX9_liar_59 rfl (congrArg (fun z : Int32 => v1 + z) (show Int32.ofInt (1) = (1 : Int32) by decide)) rfl (Nat.le_of_ble_eq_true rfl) rfl ?_
  refine x_goto 62 2 dX9_liar_62 (by decide) ?_
  exact hκ2 _ _ _ H

def f_X9_liar_c45 (κ2 : Nat → Int32 → XM → Option (Int32 × XM)) (v0 : Nat) (v1 : Int32) (s0 : Int32) (M : XM) : Option (Int32 × XM) :=
  if x_tag M v0 = 9 + 10 then (if s0 = ((x_i M v0 6) - (1 : Int32)) then (some (v1, M)) else (f_X9_liar_59 κ2 v0 v1 M)) else none
set_option maxRecDepth 20000 in
set_option maxHeartbeats 4000000 in
theorem t_X9_liar_c45 (l : Launch) {κ2 : Nat → Int32 → XM → Option (Int32 × XM)} {v0 : Nat} {v1 : Int32} {s0 : Int32} {M : XM} {q : Int32 × XM} (hκ2 : ∀ (v0 : Nat) (v1 : Int32) (M : XM), κ2 v0 v1 M = some q → AW l m_X9_liar 2 0 0 (x_Ri q) 0 0 2 [some (.ref v0), some (.int v1), none] [] M) (H : f_X9_liar_c45 κ2 v0 v1 s0 M = some q) : AW l m_X9_liar 2 0 0 (x_Ri q) 0 0 48 [some (.ref v0), some (.int v1), none] [(.int s0)] M := by
  unfold f_X9_liar_c45 at H
  refine x_aload_n 48 0 dX9_liar_48 rfl rfl ?_
  obtain ⟨h12, H⟩ := x_ckp H
  refine x_getf 49 150 9 6 (.int (x_i M v0 6)) dX9_liar_49 lk_1036 (by decide) (by decide) rfl (fun _ => rfl) h12 ?_
  refine x_iconst 52 (1 : Int32) dX9_liar_52 (by decide) ?_
  refine x_isub 53 dX9_liar_53 ?_
  refine x_icmp_ne 54 59 dX9_liar_54 (by decide) (fun c13 => ?_) (fun c13 => ?_)
  · replace H := x_ifn c13 H
    exact t_X9_liar_59 l hκ2 H
  · replace H := x_ifp c13 H
    refine x_iload_n 57 1 dX9_liar_57 rfl rfl ?_
    cases H
    exact x_iret 58 dX9_liar_58 .int rfl rfl (Nat.le_of_ble_eq_true rfl) (Nat.le_of_ble_eq_true rfl) ⟨rfl, rfl⟩

def f_X9_liar_31 (κ2 : Nat → Int32 → XM → Option (Int32 × XM)) (v0 : Nat) (v1 : Int32) (s0 : Int32) (s1 : Nat) (M : XM) : Option (Int32 × XM) :=
  if x_at M s1 1 s0 = true then (if x_tag M v0 = 9 + 10 then (if x_at M (x_r M v0 15) 1 v1 = true then (if (x_i M s1 s0.toNatClampNeg) = (x_i M (x_r M v0 15) v1.toNatClampNeg) then (f_X9_liar_59 κ2 v0 v1 M) else (x_bd (f_X9_haveIt v0 (x_i M s1 s0.toNatClampNeg) M) (f_X9_liar_c45 κ2 v0 v1))) else none) else none) else none
set_option maxRecDepth 20000 in
set_option maxHeartbeats 4000000 in
theorem t_X9_liar_31 (l : Launch) {κ2 : Nat → Int32 → XM → Option (Int32 × XM)} {v0 : Nat} {v1 : Int32} {s0 : Int32} {s1 : Nat} {M : XM} {q : Int32 × XM} (hκ2 : ∀ (v0 : Nat) (v1 : Int32) (M : XM), κ2 v0 v1 M = some q → AW l m_X9_liar 2 0 0 (x_Ri q) 0 0 2 [some (.ref v0), some (.int v1), none] [] M) (H : f_X9_liar_31 κ2 v0 v1 s0 s1 M = some q) : AW l m_X9_liar 2 0 0 (x_Ri q) 0 0 31 [some (.ref v0), some (.int v1), none] [(.int s0), (.ref s1)] M := by
  unfold f_X9_liar_31 at H
  obtain ⟨h5, H⟩ := x_ckp H
  refine x_iald 31 dX9_liar_31 h5 ?_
  refine x_istore_n 32 2 [some (.ref v0), some (.int v1), some (.int (x_i M s1 s0.toNatClampNeg))] dX9_liar_32 rfl rfl (Nat.le_of_ble_eq_true rfl) rfl ?_
  refine x_iload_n 33 2 dX9_liar_33 rfl rfl ?_
  refine x_aload_n 34 0 dX9_liar_34 rfl rfl ?_
  obtain ⟨h6, H⟩ := x_ckp H
  refine x_getf 35 47 9 15 (.ref (x_r M v0 15)) dX9_liar_35 lk_1045 (by decide) (by decide) rfl (fun _ => rfl) h6 ?_
  refine x_iload_n 38 1 dX9_liar_38 rfl rfl ?_
  obtain ⟨h7, H⟩ := x_ckp H
  refine x_iald 39 dX9_liar_39 h7 ?_
  refine x_icmp_eq 40 59 dX9_liar_40 (by decide) (fun c8 => ?_) (fun c8 => ?_)
  · replace H := x_ifp c8 H
    exact x_wk (le_s (le_s (le_n le_0))) (t_X9_liar_59 l hκ2 H)
  · replace H := x_ifn c8 H
    refine x_aload_n 43 0 dX9_liar_43 rfl rfl ?_
    refine x_iload_n 44 2 dX9_liar_44 rfl rfl ?_
    obtain ⟨r10, M9, e11, H⟩ := x_bd_of H
    refine x_callV 45 258 9 [(.int (x_i M s1 s0.toNatClampNeg))] [] dX9_liar_45 (ct_X9_haveIt l e11) lk_1424 lk_1426 lk_73 (by decide) h6 lk_94 lk_1427 ⟨cn_X9_haveIt, (by decide), by decide⟩ rfl (Nat.le_of_ble_eq_true rfl) (Nat.le_of_ble_eq_true rfl) (Nat.le_of_ble_eq_true rfl) (x_ri ?_)
    exact x_wk (le_s (le_s (le_n le_0))) (t_X9_liar_c45 l hκ2 H)

def bd_X9_liar_2 (κ2 : Nat → Int32 → XM → Option (Int32 × XM)) (v0 : Nat) (v1 : Int32) (M : XM) : Option (Int32 × XM) :=
  if x_tag M v0 = 9 + 10 then (if (x_i M v0 6) ≤ v1 then (some ((-1 : Int32), M)) else (if (x_i M v0 6) ≤ (2 : Int32) then (some ((-1 : Int32), M)) else (if v1 = 0 then (f_X9_liar_31 κ2 v0 v1 (1 : Int32) (x_r M v0 15) M) else (f_X9_liar_31 κ2 v0 v1 (0 : Int32) (x_r M v0 15) M)))) else none
set_option maxRecDepth 20000 in
set_option maxHeartbeats 4000000 in
theorem tb_X9_liar_2 (l : Launch) {κ2 : Nat → Int32 → XM → Option (Int32 × XM)} {v0 : Nat} {v1 : Int32} {M : XM} {q : Int32 × XM} (hκ2 : ∀ (v0 : Nat) (v1 : Int32) (M : XM), κ2 v0 v1 M = some q → AW l m_X9_liar 2 0 0 (x_Ri q) 0 0 2 [some (.ref v0), some (.int v1), none] [] M) (H : bd_X9_liar_2 κ2 v0 v1 M = some q) : AW l m_X9_liar 2 0 0 (x_Ri q) 0 0 2 [some (.ref v0), some (.int v1), none] [] M := by
  unfold bd_X9_liar_2 at H
  refine x_iload_n 2 1 dX9_liar_2 rfl rfl ?_
  refine x_aload_n 3 0 dX9_liar_3 rfl rfl ?_
  obtain ⟨h1, H⟩ := x_ckp H
  refine x_getf 4 150 9 6 (.int (x_i M v0 6)) dX9_liar_4 lk_1036 (by decide) (by decide) rfl (fun _ => rfl) h1 ?_
  refine x_icmp_ge 7 65 dX9_liar_7 (by decide) (fun c2 => ?_) (fun c2 => ?_)
  · replace H := x_ifp c2 H
    refine x_iconst 65 (-1 : Int32) dX9_liar_65 (by decide) ?_
    cases H
    exact x_iret 66 dX9_liar_66 .int rfl rfl (Nat.le_of_ble_eq_true rfl) (Nat.le_of_ble_eq_true rfl) ⟨rfl, rfl⟩
  · replace H := x_ifn c2 H
    refine x_aload_n 10 0 dX9_liar_10 rfl rfl ?_
    refine x_getf 11 150 9 6 (.int (x_i M v0 6)) dX9_liar_11 lk_1036 (by decide) (by decide) rfl (fun _ => rfl) h1 ?_
    refine x_iconst 14 (2 : Int32) dX9_liar_14 (by decide) ?_
    refine x_icmp_le 15 65 dX9_liar_15 (by decide) (fun c3 => ?_) (fun c3 => ?_)
    · replace H := x_ifp c3 H
      refine x_iconst 65 (-1 : Int32) dX9_liar_65 (by decide) ?_
      cases H
      exact x_iret 66 dX9_liar_66 .int rfl rfl (Nat.le_of_ble_eq_true rfl) (Nat.le_of_ble_eq_true rfl) ⟨rfl, rfl⟩
    · replace H := x_ifn c3 H
      refine x_aload_n 18 0 dX9_liar_18 rfl rfl ?_
      refine x_getf 19 47 9 15 (.ref (x_r M v0 15)) dX9_liar_19 lk_1045 (by decide) (by decide) rfl (fun _ => rfl) h1 ?_
      refine x_iload_n 22 1 dX9_liar_22 rfl rfl ?_
      refine x_if_ne 23 30 dX9_liar_23 (by decide) (fun c4 => ?_) (fun c4 => ?_)
      · replace H := x_ifn c4 H
        refine x_iconst 30 (0 : Int32) dX9_liar_30 (by decide) ?_
        exact t_X9_liar_31 l hκ2 H
      · replace H := x_ifp c4 H
        refine x_iconst 26 (1 : Int32) dX9_liar_26 (by decide) ?_
        refine x_goto 27 31 dX9_liar_27 (by decide) ?_
        exact t_X9_liar_31 l hκ2 H

def lp_X9_liar_2 (n : Nat) : Nat → Int32 → XM → Option (Int32 × XM) := x_rec (fun _ _ _ => none) (bd_X9_liar_2) n
theorem t_X9_liar_2 (l : Launch) {q : Int32 × XM} : ∀ (n : Nat) (v0 : Nat) (v1 : Int32) (M : XM), lp_X9_liar_2 n v0 v1 M = some q → AW l m_X9_liar 2 0 0 (x_Ri q) 0 0 2 [some (.ref v0), some (.int v1), none] [] M := by
  intro n
  induction n with
  | zero => intro v0 v1 M H; cases H
  | succ n ih => intro v0 v1 M H; exact tb_X9_liar_2 l ih H
def f_X9_liar (v0 : Nat) (M : XM) : Option (Int32 × XM) :=
  lp_X9_liar_2 x_fuel v0 (0 : Int32) M
set_option maxRecDepth 20000 in
set_option maxHeartbeats 4000000 in
theorem t_X9_liar (l : Launch) {v0 : Nat} {M : XM} {q : Int32 × XM} (H : f_X9_liar v0 M = some q) : AW l m_X9_liar 2 0 0 (x_Ri q) 0 0 0 [some (.ref v0), none, none] [] M := by
  unfold f_X9_liar at H
  refine x_iconst 0 (0 : Int32) dX9_liar_0 (by decide) ?_
  refine x_istore_n 1 1 [some (.ref v0), some (.int (0 : Int32)), none] dX9_liar_1 rfl rfl (Nat.le_of_ble_eq_true rfl) rfl ?_
  exact t_X9_liar_2 l _ _ _ _ H

theorem ct_X9_liar (l : Launch) {v0 : Nat} {M : XM} {q : Int32 × XM} (H : f_X9_liar v0 M = some q) : Ct l m_X9_liar 2 0 0 [(.ref v0)] M (x_Ri q) := x_met l m_X9_liar 2 0 0 [(.ref v0)] M (x_Ri q) _ rfl rfl (Nat.le_of_ble_eq_true rfl) (t_X9_liar l H)
abbrev m_X9_spread : XU := (yX9_spread, cX9_spread, 4, (some .int))
theorem cn_X9_spread : m_X9_spread.1.cls ≠ "java/lang/invoke/MethodHandle" ∧ m_X9_spread.1.cls ≠ "java/lang/invoke/VarHandle" ∧ (parseMethodDescriptor m_X9_spread.1.desc).map (fun q => q.parameters.length) = some 0 := by decide +kernel
def f_X9_spread_57 (κ8 : Nat → Int32 → Int32 → Int32 → XM → Option (Int32 × XM)) (v0 : Nat) (v1 : Int32) (v3 : Int32) (s0 : Int32) (M : XM) : Option (Int32 × XM) :=
  κ8 v0 v1 s0 (v3 + (1 : Int32)) M
set_option maxRecDepth 20000 in
set_option maxHeartbeats 4000000 in
theorem t_X9_spread_57 (l : Launch) {κ8 : Nat → Int32 → Int32 → Int32 → XM → Option (Int32 × XM)} {v0 : Nat} {v1 : Int32} {v3 : Int32} {s0 : Int32} {M : XM} {q : Int32 × XM} (hκ8 : ∀ (v0 : Nat) (v1 : Int32) (v2 : Int32) (v3 : Int32) (M : XM), κ8 v0 v1 v2 v3 M = some q → AW l m_X9_spread 1 0 0 (x_Ri q) 0 0 8 [some (.ref v0), some (.int v1), some (.int v2), some (.int v3)] [] M) (H : f_X9_spread_57 κ8 v0 v1 v3 s0 M = some q) : AW l m_X9_spread 1 0 0 (x_Ri q) 0 0 57 [some (.ref v0), some (.int v1), none, some (.int v3)] [(.int s0)] M := by
  unfold f_X9_spread_57 at H
  refine x_istore_n 57 2 [some (.ref v0), some (.int v1), some (.int s0), some (.int v3)] dX9_spread_57 rfl rfl (Nat.le_of_ble_eq_true rfl) rfl ?_
  refine x_iinc 58 3 (v3 + (1 : Int32)) [some (.ref v0), some (.int v1), some (.int s0), some (.int (v3 + (1 : Int32)))] dX9_spread_58 rfl (congrArg (fun z : Int32 => v3 + z) (show Int32.ofInt (1) = (1 : Int32) by decide)) rfl (Nat.le_of_ble_eq_true rfl) rfl ?_
  refine x_goto 61 8 dX9_spread_61 (by decide) ?_
  exact hκ8 _ _ _ _ _ H

def f_X9_spread_36 (κ8 : Nat → Int32 → Int32 → Int32 → XM → Option (Int32 × XM)) (v0 : Nat) (v2 : Int32) (v3 : Int32) (s0 : Int32) (M : XM) : Option (Int32 × XM) :=
  if x_tag M v0 = 9 + 10 then (if x_at M (x_r M v0 15) 1 v3 = true then (if (x_i M (x_r M v0 15) v3.toNatClampNeg) ≤ v2 then (f_X9_spread_57 κ8 v0 s0 v3 v2 M) else (f_X9_spread_57 κ8 v0 s0 v3 (x_i M (x_r M v0 15) v3.toNatClampNeg) M)) else none) else none
set_option maxRecDepth 20000 in
set_option maxHeartbeats 4000000 in
theorem t_X9_spread_36 (l : Launch) {κ8 : Nat → Int32 → Int32 → Int32 → XM → Option (Int32 × XM)} {v0 : Nat} {v2 : Int32} {v3 : Int32} {s0 : Int32} {M : XM} {q : Int32 × XM} (hκ8 : ∀ (v0 : Nat) (v1 : Int32) (v2 : Int32) (v3 : Int32) (M : XM), κ8 v0 v1 v2 v3 M = some q → AW l m_X9_spread 1 0 0 (x_Ri q) 0 0 8 [some (.ref v0), some (.int v1), some (.int v2), some (.int v3)] [] M) (H : f_X9_spread_36 κ8 v0 v2 v3 s0 M = some q) : AW l m_X9_spread 1 0 0 (x_Ri q) 0 0 36 [some (.ref v0), none, some (.int v2), some (.int v3)] [(.int s0)] M := by
  unfold f_X9_spread_36 at H
  refine x_istore_n 36 1 [some (.ref v0), some (.int s0), some (.int v2), some (.int v3)] dX9_spread_36 rfl rfl (Nat.le_of_ble_eq_true rfl) rfl ?_
  refine x_aload_n 37 0 dX9_spread_37 rfl rfl ?_
  obtain ⟨h6, H⟩ := x_ckp H
  refine x_getf 38 47 9 15 (.ref (x_r M v0 15)) dX9_spread_38 lk_1045 (by decide) (by decide) rfl (fun _ => rfl) h6 ?_
  refine x_iload_n 41 3 dX9_spread_41 rfl rfl ?_
  obtain ⟨h7, H⟩ := x_ckp H
  refine x_iald 42 dX9_spread_42 h7 ?_
  refine x_iload_n 43 2 dX9_spread_43 rfl rfl ?_
  refine x_icmp_le 44 56 dX9_spread_44 (by decide) (fun c8 => ?_) (fun c8 => ?_)
  · replace H := x_ifp c8 H
    refine x_iload_n 56 2 dX9_spread_56 rfl rfl ?_
    exact x_wk (le_s (le_s (le_n (le_s le_0)))) (t_X9_spread_57 l hκ8 H)
  · replace H := x_ifn c8 H
    refine x_aload_n 47 0 dX9_spread_47 rfl rfl ?_
    refine x_getf 48 47 9 15 (.ref (x_r M v0 15)) dX9_spread_48 lk_1045 (by decide) (by decide) rfl (fun _ => rfl) h6 ?_
    refine x_iload_n 51 3 dX9_spread_51 rfl rfl ?_
    refine x_iald 52 dX9_spread_52 h7 ?_
    refine x_goto 53 57 dX9_spread_53 (by decide) ?_
    exact x_wk (le_s (le_s (le_n (le_s le_0)))) (t_X9_spread_57 l hκ8 H)

def bd_X9_spread_8 (κ8 : Nat → Int32 → Int32 → Int32 → XM → Option (Int32 × XM)) (v0 : Nat) (v1 : Int32) (v2 : Int32) (v3 : Int32) (M : XM) : Option (Int32 × XM) :=
  if x_tag M v0 = 9 + 10 then (if (x_i M v0 6) ≤ v3 then (if (x_i M v0 6) = 0 then (some ((0 : Int32), M)) else (some ((v2 - v1), M))) else (if x_at M (x_r M v0 15) 1 v3 = true then (if v1 ≤ (x_i M (x_r M v0 15) v3.toNatClampNeg) then (f_X9_spread_36 κ8 v0 v2 v3 v1 M) else (f_X9_spread_36 κ8 v0 v2 v3 (x_i M (x_r M v0 15) v3.toNatClampNeg) M)) else none)) else none
set_option maxRecDepth 20000 in
set_option maxHeartbeats 4000000 in
theorem tb_X9_spread_8 (l : Launch) {κ8 : Nat → Int32 → Int32 → Int32 → XM → Option (Int32 × XM)} {v0 : Nat} {v1 : Int32} {v2 : Int32} {v3 : Int32} {M : XM} {q : Int32 × XM} (hκ8 : ∀ (v0 : Nat) (v1 : Int32) (v2 : Int32) (v3 : Int32) (M : XM), κ8 v0 v1 v2 v3 M = some q → AW l m_X9_spread 1 0 0 (x_Ri q) 0 0 8 [some (.ref v0), some (.int v1), some (.int v2), some (.int v3)] [] M) (H : bd_X9_spread_8 κ8 v0 v1 v2 v3 M = some q) : AW l m_X9_spread 1 0 0 (x_Ri q) 0 0 8 [some (.ref v0), some (.int v1), some (.int v2), some (.int v3)] [] M := by
  unfold bd_X9_spread_8 at H
  refine x_iload_n 8 3 dX9_spread_8 rfl rfl ?_
  refine x_aload_n 9 0 dX9_spread_9 rfl rfl ?_
  obtain ⟨h1, H⟩ := x_ckp H
  refine x_getf 10 150 9 6 (.int (x_i M v0 6)) dX9_spread_10 lk_1036 (by decide) (by decide) rfl (fun _ => rfl) h1 ?_
  refine x_icmp_ge 13 64 dX9_spread_13 (by decide) (fun c2 => ?_) (fun c2 => ?_)
  · replace H := x_ifp c2 H
    refine x_aload_n 64 0 dX9_spread_64 rfl rfl ?_
    refine x_getf 65 150 9 6 (.int (x_i M v0 6)) dX9_spread_65 lk_1036 (by decide) (by decide) rfl (fun _ => rfl) h1 ?_
    refine x_if_ne 68 75 dX9_spread_68 (by decide) (fun c3 => ?_) (fun c3 => ?_)
    · replace H := x_ifn c3 H
      refine x_iload_n 75 2 dX9_spread_75 rfl rfl ?_
      refine x_iload_n 76 1 dX9_spread_76 rfl rfl ?_
      refine x_isub 77 dX9_spread_77 ?_
      cases H
      exact x_iret 78 dX9_spread_78 .int rfl rfl (Nat.le_of_ble_eq_true rfl) (Nat.le_of_ble_eq_true rfl) ⟨rfl, rfl⟩
    · replace H := x_ifp c3 H
      refine x_iconst 71 (0 : Int32) dX9_spread_71 (by decide) ?_
      refine x_goto 72 78 dX9_spread_72 (by decide) ?_
      cases H
      exact x_iret 78 dX9_spread_78 .int rfl rfl (Nat.le_of_ble_eq_true rfl) (Nat.le_of_ble_eq_true rfl) ⟨rfl, rfl⟩
  · replace H := x_ifn c2 H
    refine x_aload_n 16 0 dX9_spread_16 rfl rfl ?_
    refine x_getf 17 47 9 15 (.ref (x_r M v0 15)) dX9_spread_17 lk_1045 (by decide) (by decide) rfl (fun _ => rfl) h1 ?_
    refine x_iload_n 20 3 dX9_spread_20 rfl rfl ?_
    obtain ⟨h4, H⟩ := x_ckp H
    refine x_iald 21 dX9_spread_21 h4 ?_
    refine x_iload_n 22 1 dX9_spread_22 rfl rfl ?_
    refine x_icmp_ge 23 35 dX9_spread_23 (by decide) (fun c5 => ?_) (fun c5 => ?_)
    · replace H := x_ifp c5 H
      refine x_iload_n 35 1 dX9_spread_35 rfl rfl ?_
      exact x_wk (le_s (le_n (le_s (le_s le_0)))) (t_X9_spread_36 l hκ8 H)
    · replace H := x_ifn c5 H
      refine x_aload_n 26 0 dX9_spread_26 rfl rfl ?_
      refine x_getf 27 47 9 15 (.ref (x_r M v0 15)) dX9_spread_27 lk_1045 (by decide) (by decide) rfl (fun _ => rfl) h1 ?_
      refine x_iload_n 30 3 dX9_spread_30 rfl rfl ?_
      refine x_iald 31 dX9_spread_31 h4 ?_
      refine x_goto 32 36 dX9_spread_32 (by decide) ?_
      exact x_wk (le_s (le_n (le_s (le_s le_0)))) (t_X9_spread_36 l hκ8 H)

def lp_X9_spread_8 (n : Nat) : Nat → Int32 → Int32 → Int32 → XM → Option (Int32 × XM) := x_rec (fun _ _ _ _ _ => none) (bd_X9_spread_8) n
theorem t_X9_spread_8 (l : Launch) {q : Int32 × XM} : ∀ (n : Nat) (v0 : Nat) (v1 : Int32) (v2 : Int32) (v3 : Int32) (M : XM), lp_X9_spread_8 n v0 v1 v2 v3 M = some q → AW l m_X9_spread 1 0 0 (x_Ri q) 0 0 8 [some (.ref v0), some (.int v1), some (.int v2), some (.int v3)] [] M := by
  intro n
  induction n with
  | zero => intro v0 v1 v2 v3 M H; cases H
  | succ n ih => intro v0 v1 v2 v3 M H; exact tb_X9_spread_8 l ih H
def f_X9_spread (v0 : Nat) (M : XM) : Option (Int32 × XM) :=
  lp_X9_spread_8 x_fuel v0 (10000 : Int32) (-1 : Int32) (0 : Int32) M
set_option maxRecDepth 20000 in
set_option maxHeartbeats 4000000 in
theorem t_X9_spread (l : Launch) {v0 : Nat} {M : XM} {q : Int32 × XM} (H : f_X9_spread v0 M = some q) : AW l m_X9_spread 1 0 0 (x_Ri q) 0 0 0 [some (.ref v0), none, none, none] [] M := by
  unfold f_X9_spread at H
  refine x_sipush 0 (10000 : Int32) dX9_spread_0 (by decide) ?_
  refine x_istore_n 3 1 [some (.ref v0), some (.int (10000 : Int32)), none, none] dX9_spread_3 rfl rfl (Nat.le_of_ble_eq_true rfl) rfl ?_
  refine x_iconst 4 (-1 : Int32) dX9_spread_4 (by decide) ?_
  refine x_istore_n 5 2 [some (.ref v0), some (.int (10000 : Int32)), some (.int (-1 : Int32)), none] dX9_spread_5 rfl rfl (Nat.le_of_ble_eq_true rfl) rfl ?_
  refine x_iconst 6 (0 : Int32) dX9_spread_6 (by decide) ?_
  refine x_istore_n 7 3 [some (.ref v0), some (.int (10000 : Int32)), some (.int (-1 : Int32)), some (.int (0 : Int32))] dX9_spread_7 rfl rfl (Nat.le_of_ble_eq_true rfl) rfl ?_
  exact t_X9_spread_8 l _ _ _ _ _ _ H

theorem ct_X9_spread (l : Launch) {v0 : Nat} {M : XM} {q : Int32 × XM} (H : f_X9_spread v0 M = some q) : Ct l m_X9_spread 1 0 0 [(.ref v0)] M (x_Ri q) := x_met l m_X9_spread 1 0 0 [(.ref v0)] M (x_Ri q) _ rfl rfl (Nat.le_of_ble_eq_true rfl) (t_X9_spread l H)
theorem lk_1423 : Cond.code yX9_truth cX9_truth 3 (some .int) ∈ x_TB := x_tb (k := 1423) (by decide +kernel) rfl
theorem lk_1420 : Cond.methodLink RX9 261 yX9_truth ∈ x_TB := x_tb (k := 1420) (by decide +kernel) rfl
theorem lk_72 : Cond.selects RX9 yX9_truth yX9_truth ∈ x_TB := x_tb (k := 72) (by decide +kernel) rfl
theorem lk_1422 : Cond.instanceMethod yX9_truth ∈ x_TB := x_tb (k := 1422) (by decide +kernel) rfl
theorem lk_1431 : Cond.code yX9_liar cX9_liar 3 (some .int) ∈ x_TB := x_tb (k := 1431) (by decide +kernel) rfl
theorem lk_1428 : Cond.methodLink RX9 264 yX9_liar ∈ x_TB := x_tb (k := 1428) (by decide +kernel) rfl
theorem lk_74 : Cond.selects RX9 yX9_liar yX9_liar ∈ x_TB := x_tb (k := 74) (by decide +kernel) rfl
theorem lk_1430 : Cond.instanceMethod yX9_liar ∈ x_TB := x_tb (k := 1430) (by decide +kernel) rfl
theorem lk_1435 : Cond.code yX9_spread cX9_spread 4 (some .int) ∈ x_TB := x_tb (k := 1435) (by decide +kernel) rfl
theorem lk_1432 : Cond.methodLink RX9 267 yX9_spread ∈ x_TB := x_tb (k := 1432) (by decide +kernel) rfl
theorem lk_75 : Cond.selects RX9 yX9_spread yX9_spread ∈ x_TB := x_tb (k := 75) (by decide +kernel) rfl
theorem lk_1434 : Cond.instanceMethod yX9_spread ∈ x_TB := x_tb (k := 1434) (by decide +kernel) rfl
abbrev m_X9_tallies : XU := (yX9_tallies, cX9_tallies, 2, (some .int))
theorem cn_X9_tallies : m_X9_tallies.1.cls ≠ "java/lang/invoke/MethodHandle" ∧ m_X9_tallies.1.cls ≠ "java/lang/invoke/VarHandle" ∧ (parseMethodDescriptor m_X9_tallies.1.desc).map (fun q => q.parameters.length) = some 1 := by decide +kernel
def f_X9_tallies_27 (v0 : Nat) (v1 : Int32) (M : XM) : Option (Int32 × XM) :=
  if v1 = (0 : Int32) then (if x_tag M v0 = 9 + 10 then (x_bd (f_X9_truth v0 M) (fun r5 M4 => some (r5, M4))) else none) else if v1 = (1 : Int32) then (if x_tag M v0 = 9 + 10 then (x_bd (f_X9_liar v0 M) (fun r10 M9 => some (r10, M9))) else none) else if v1 = (2 : Int32) then (if x_tag M v0 = 9 + 10 then (x_bd (f_X9_spread v0 M) (fun r15 M14 => some (r15, M14))) else none) else if v1 = (3 : Int32) then (if x_tag M v0 = 9 + 10 then (some ((x_i M v0 6), M)) else none) else if x_tag M v0 = 9 + 10 then (x_bd (f_X9_noTen v0 (-5 : Int32) M) (fun r21 M20 => some (r21, M20))) else none
set_option maxRecDepth 20000 in
set_option maxHeartbeats 4000000 in
theorem t_X9_tallies_27 (l : Launch) {v0 : Nat} {v1 : Int32} {M : XM} {q : Int32 × XM} (H : f_X9_tallies_27 v0 v1 M = some q) : AW l m_X9_tallies 3 0 0 (x_Ri q) 0 0 27 [some (.ref v0), some (.int v1)] [] M := by
  unfold f_X9_tallies_27 at H
  refine x_iload_n 27 1 dX9_tallies_27 rfl rfl ?_
  by_cases c2 : v1 = (0 : Int32)
  · replace H := x_ifp c2 H
    refine x_tableIn (off := 32) 28 60 dX9_tallies_28 (by rw [c2]; decide) (by rw [c2]; decide) (by rw [c2]; rfl) (by decide) ?_
    refine x_aload_n 60 0 dX9_tallies_60 rfl rfl ?_
    obtain ⟨h3, H⟩ := x_ckp H
    obtain ⟨r5, M4, e6, H⟩ := x_bd_of H
    refine x_callV 61 261 9 [] [] dX9_tallies_61 (ct_X9_truth l e6) lk_1420 lk_1422 lk_72 (by decide) h3 lk_94 lk_1423 ⟨cn_X9_truth, (by decide), by decide⟩ rfl (Nat.le_of_ble_eq_true rfl) (Nat.le_of_ble_eq_true rfl) (Nat.le_of_ble_eq_true rfl) (x_ri ?_)
    cases H
    exact x_iret 64 dX9_tallies_64 .int rfl rfl (Nat.le_of_ble_eq_true rfl) (Nat.le_of_ble_eq_true rfl) ⟨rfl, rfl⟩
  · replace H := x_ifn c2 H
    by_cases c7 : v1 = (1 : Int32)
    · replace H := x_ifp c7 H
      refine x_tableIn (off := 37) 28 65 dX9_tallies_28 (by rw [c7]; decide) (by rw [c7]; decide) (by rw [c7]; rfl) (by decide) ?_
      refine x_aload_n 65 0 dX9_tallies_65 rfl rfl ?_
      obtain ⟨h8, H⟩ := x_ckp H
      obtain ⟨r10, M9, e11, H⟩ := x_bd_of H
      refine x_callV 66 264 9 [] [] dX9_tallies_66 (ct_X9_liar l e11) lk_1428 lk_1430 lk_74 (by decide) h8 lk_94 lk_1431 ⟨cn_X9_liar, (by decide), by decide⟩ rfl (Nat.le_of_ble_eq_true rfl) (Nat.le_of_ble_eq_true rfl) (Nat.le_of_ble_eq_true rfl) (x_ri ?_)
      cases H
      exact x_iret 69 dX9_tallies_69 .int rfl rfl (Nat.le_of_ble_eq_true rfl) (Nat.le_of_ble_eq_true rfl) ⟨rfl, rfl⟩
    · replace H := x_ifn c7 H
      by_cases c12 : v1 = (2 : Int32)
      · replace H := x_ifp c12 H
        refine x_tableIn (off := 42) 28 70 dX9_tallies_28 (by rw [c12]; decide) (by rw [c12]; decide) (by rw [c12]; rfl) (by decide) ?_
        refine x_aload_n 70 0 dX9_tallies_70 rfl rfl ?_
        obtain ⟨h13, H⟩ := x_ckp H
        obtain ⟨r15, M14, e16, H⟩ := x_bd_of H
        refine x_callV 71 267 9 [] [] dX9_tallies_71 (ct_X9_spread l e16) lk_1432 lk_1434 lk_75 (by decide) h13 lk_94 lk_1435 ⟨cn_X9_spread, (by decide), by decide⟩ rfl (Nat.le_of_ble_eq_true rfl) (Nat.le_of_ble_eq_true rfl) (Nat.le_of_ble_eq_true rfl) (x_ri ?_)
        cases H
        exact x_iret 74 dX9_tallies_74 .int rfl rfl (Nat.le_of_ble_eq_true rfl) (Nat.le_of_ble_eq_true rfl) ⟨rfl, rfl⟩
      · replace H := x_ifn c12 H
        by_cases c17 : v1 = (3 : Int32)
        · replace H := x_ifp c17 H
          refine x_tableIn (off := 47) 28 75 dX9_tallies_28 (by rw [c17]; decide) (by rw [c17]; decide) (by rw [c17]; rfl) (by decide) ?_
          refine x_aload_n 75 0 dX9_tallies_75 rfl rfl ?_
          obtain ⟨h18, H⟩ := x_ckp H
          refine x_getf 76 150 9 6 (.int (x_i M v0 6)) dX9_tallies_76 lk_1036 (by decide) (by decide) rfl (fun _ => rfl) h18 ?_
          cases H
          exact x_iret 79 dX9_tallies_79 .int rfl rfl (Nat.le_of_ble_eq_true rfl) (Nat.le_of_ble_eq_true rfl) ⟨rfl, rfl⟩
        · replace H := x_ifn c17 H
          refine x_tableOut 28 80 dX9_tallies_28 (by have n0 := lv_neT (a := 0) c2 (by decide); have n1 := lv_neT (a := 1) c7 (by decide); have n2 := lv_neT (a := 2) c12 (by decide); have n3 := lv_neT (a := 3) c17 (by decide); omega) (by decide) ?_
          refine x_aload_n 80 0 dX9_tallies_80 rfl rfl ?_
          refine x_bipush 81 (-5 : Int32) dX9_tallies_81 (by decide) ?_
          obtain ⟨h19, H⟩ := x_ckp H
          obtain ⟨r21, M20, e22, H⟩ := x_bd_of H
          refine x_callV 83 212 9 [(.int (-5 : Int32))] [] dX9_tallies_83 (ct_X9_noTen l e22) lk_1314 lk_1316 lk_59 (by decide) h19 lk_94 lk_1317 ⟨cn_X9_noTen, (by decide), by decide⟩ rfl (Nat.le_of_ble_eq_true rfl) (Nat.le_of_ble_eq_true rfl) (Nat.le_of_ble_eq_true rfl) (x_ri ?_)
          cases H
          exact x_iret 86 dX9_tallies_86 .int rfl rfl (Nat.le_of_ble_eq_true rfl) (Nat.le_of_ble_eq_true rfl) ⟨rfl, rfl⟩

def f_X9_tallies (v0 : Nat) (v1 : Int32) (M : XM) : Option (Int32 × XM) :=
  if v1 < (10 : Int32) then (f_X9_tallies_27 v0 v1 M) else (if x_tag M v0 = 9 + 10 then (if ((10 : Int32) + (x_i M v0 6)) ≤ v1 then (f_X9_tallies_27 v0 v1 M) else (if x_at M (x_r M v0 15) 1 (v1 - (10 : Int32)) = true then (some ((x_i M (x_r M v0 15) (v1 - (10 : Int32)).toNatClampNeg), M)) else none)) else none)
set_option maxRecDepth 20000 in
set_option maxHeartbeats 4000000 in
theorem t_X9_tallies (l : Launch) {v0 : Nat} {v1 : Int32} {M : XM} {q : Int32 × XM} (H : f_X9_tallies v0 v1 M = some q) : AW l m_X9_tallies 3 0 0 (x_Ri q) 0 0 0 [some (.ref v0), some (.int v1)] [] M := by
  unfold f_X9_tallies at H
  refine x_iload_n 0 1 dX9_tallies_0 rfl rfl ?_
  refine x_bipush 1 (10 : Int32) dX9_tallies_1 (by decide) ?_
  refine x_icmp_lt 3 27 dX9_tallies_3 (by decide) (fun c1 => ?_) (fun c1 => ?_)
  · replace H := x_ifp c1 H
    exact t_X9_tallies_27 l H
  · replace H := x_ifn c1 H
    refine x_iload_n 6 1 dX9_tallies_6 rfl rfl ?_
    refine x_bipush 7 (10 : Int32) dX9_tallies_7 (by decide) ?_
    refine x_aload_n 9 0 dX9_tallies_9 rfl rfl ?_
    obtain ⟨h23, H⟩ := x_ckp H
    refine x_getf 10 150 9 6 (.int (x_i M v0 6)) dX9_tallies_10 lk_1036 (by decide) (by decide) rfl (fun _ => rfl) h23 ?_
    refine x_iadd 13 dX9_tallies_13 ?_
    refine x_icmp_ge 14 27 dX9_tallies_14 (by decide) (fun c24 => ?_) (fun c24 => ?_)
    · replace H := x_ifp c24 H
      exact t_X9_tallies_27 l H
    · replace H := x_ifn c24 H
      refine x_aload_n 17 0 dX9_tallies_17 rfl rfl ?_
      refine x_getf 18 47 9 15 (.ref (x_r M v0 15)) dX9_tallies_18 lk_1045 (by decide) (by decide) rfl (fun _ => rfl) h23 ?_
      refine x_iload_n 21 1 dX9_tallies_21 rfl rfl ?_
      refine x_bipush 22 (10 : Int32) dX9_tallies_22 (by decide) ?_
      refine x_isub 24 dX9_tallies_24 ?_
      obtain ⟨h25, H⟩ := x_ckp H
      refine x_iald 25 dX9_tallies_25 h25 ?_
      cases H
      exact x_iret 26 dX9_tallies_26 .int rfl rfl (Nat.le_of_ble_eq_true rfl) (Nat.le_of_ble_eq_true rfl) ⟨rfl, rfl⟩

theorem ct_X9_tallies (l : Launch) {v0 : Nat} {v1 : Int32} {M : XM} {q : Int32 × XM} (H : f_X9_tallies v0 v1 M = some q) : Ct l m_X9_tallies 3 0 0 [(.ref v0), (.int v1)] M (x_Ri q) := x_met l m_X9_tallies 3 0 0 [(.ref v0), (.int v1)] M (x_Ri q) _ rfl rfl (Nat.le_of_ble_eq_true rfl) (t_X9_tallies l H)
abbrev m_X9_forget : XU := (yX9_forget, cX9_forget, 2, (some .int))
theorem cn_X9_forget : m_X9_forget.1.cls ≠ "java/lang/invoke/MethodHandle" ∧ m_X9_forget.1.cls ≠ "java/lang/invoke/VarHandle" ∧ (parseMethodDescriptor m_X9_forget.1.desc).map (fun q => q.parameters.length) = some 0 := by decide +kernel
def f_X9_forget (v0 : Nat) (M : XM) : Option (Int32 × XM) :=
  if x_tag M v0 = 9 + 10 then (x_lt (x_wi M v0 6 (0 : Int32)) (fun M2 => some ((x_i M v0 6), M2))) else none
set_option maxRecDepth 20000 in
set_option maxHeartbeats 4000000 in
theorem t_X9_forget (l : Launch) {v0 : Nat} {M : XM} {q : Int32 × XM} (H : f_X9_forget v0 M = some q) : AW l m_X9_forget 1 0 0 (x_Ri q) 0 0 0 [some (.ref v0), none] [] M := by
  unfold f_X9_forget at H
  refine x_aload_n 0 0 dX9_forget_0 rfl rfl ?_
  obtain ⟨h1, H⟩ := x_ckp H
  refine x_getf 1 150 9 6 (.int (x_i M v0 6)) dX9_forget_1 lk_1036 (by decide) (by decide) rfl (fun _ => rfl) h1 ?_
  refine x_istore_n 4 1 [some (.ref v0), some (.int (x_i M v0 6))] dX9_forget_4 rfl rfl (Nat.le_of_ble_eq_true rfl) rfl ?_
  refine x_aload_n 5 0 dX9_forget_5 rfl rfl ?_
  refine x_iconst 6 (0 : Int32) dX9_forget_6 (by decide) ?_
  obtain ⟨M2, w3, H⟩ := x_lt_of H
  have h4 : x_tag M2 v0 = 9 + 10 := by rw [w3]; exact h1
  refine x_putI' 7 150 9 6 dX9_forget_7 lk_1036 (by decide) (by decide) rfl (Or.inl rfl) (Or.inl rfl) h1 w3 ?_
  refine x_iload_n 10 1 dX9_forget_10 rfl rfl ?_
  cases H
  exact x_iret 11 dX9_forget_11 .int rfl rfl (Nat.le_of_ble_eq_true rfl) (Nat.le_of_ble_eq_true rfl) ⟨rfl, rfl⟩

theorem ct_X9_forget (l : Launch) {v0 : Nat} {M : XM} {q : Int32 × XM} (H : f_X9_forget v0 M = some q) : Ct l m_X9_forget 1 0 0 [(.ref v0)] M (x_Ri q) := x_met l m_X9_forget 1 0 0 [(.ref v0)] M (x_Ri q) _ rfl rfl (Nat.le_of_ble_eq_true rfl) (t_X9_forget l H)
abbrev m_X9_counts : XU := (yX9_counts, cX9_counts, 2, none)
theorem cn_X9_counts : m_X9_counts.1.cls ≠ "java/lang/invoke/MethodHandle" ∧ m_X9_counts.1.cls ≠ "java/lang/invoke/VarHandle" ∧ (parseMethodDescriptor m_X9_counts.1.desc).map (fun q => q.parameters.length) = some 1 := by decide +kernel
def f_X9_counts (v0 : Nat) (v1 : Int32) (M : XM) : Option XM :=
  if x_tag M v0 = 9 + 10 then (if x_at M (x_r M v0 12) 1 v1 = true then (x_lt (x_wi M (x_r M v0 12) v1.toNatClampNeg ((x_i M (x_r M v0 12) v1.toNatClampNeg) + (1 : Int32))) (fun M3 => if x_at M3 (x_r M3 v0 12) 1 v1 = true then (if (x_i M3 (x_r M3 v0 12) v1.toNatClampNeg) = (x_i M3 v0 1) then (x_lt (x_wi M3 v0 5 ((x_i M3 v0 5) + (1 : Int32))) (fun M10 => some M10)) else (some M3)) else none)) else none) else none
set_option maxRecDepth 20000 in
set_option maxHeartbeats 4000000 in
theorem t_X9_counts (l : Launch) {v0 : Nat} {v1 : Int32} {M : XM} {q : XM} (H : f_X9_counts v0 v1 M = some q) : AW l m_X9_counts 1 0 0 (x_Rv q) 0 0 0 [some (.ref v0), some (.int v1)] [] M := by
  unfold f_X9_counts at H
  refine x_aload_n 0 0 dX9_counts_0 rfl rfl ?_
  obtain ⟨h1, H⟩ := x_ckp H
  refine x_getf 1 38 9 12 (.ref (x_r M v0 12)) dX9_counts_1 lk_1042 (by decide) (by decide) rfl (fun _ => rfl) h1 ?_
  refine x_iload_n 4 1 dX9_counts_4 rfl rfl ?_
  refine x_dup2 5 dX9_counts_5 rfl rfl ?_
  obtain ⟨h2, H⟩ := x_ckp H
  refine x_iald 6 dX9_counts_6 h2 ?_
  refine x_iconst 7 (1 : Int32) dX9_counts_7 (by decide) ?_
  refine x_iadd 8 dX9_counts_8 ?_
  obtain ⟨M3, w4, H⟩ := x_lt_of H
  have h5 : x_tag M3 v0 = 9 + 10 := by rw [w4]; exact h1
  have h6 : x_at M3 (x_r M v0 12) 1 v1 = true := by rw [w4]; exact h2
  have h7 : x_tag M3 (x_r M v0 12) = 1 := by rw [w4]; exact (x_at_1 h2)
  refine x_iast' 9 dX9_counts_9 h2 w4 ?_
  refine x_aload_n 10 0 dX9_counts_10 rfl rfl ?_
  refine x_getf 11 38 9 12 (.ref (x_r M3 v0 12)) dX9_counts_11 lk_1042 (by decide) (by decide) rfl (fun _ => rfl) h5 ?_
  refine x_iload_n 14 1 dX9_counts_14 rfl rfl ?_
  obtain ⟨h8, H⟩ := x_ckp H
  refine x_iald 15 dX9_counts_15 h8 ?_
  refine x_aload_n 16 0 dX9_counts_16 rfl rfl ?_
  refine x_getf 17 7 9 1 (.int (x_i M3 v0 1)) dX9_counts_17 lk_1031 (by decide) (by decide) rfl (fun _ => rfl) h5 ?_
  refine x_icmp_ne 20 33 dX9_counts_20 (by decide) (fun c9 => ?_) (fun c9 => ?_)
  · replace H := x_ifn c9 H
    cases H
    exact x_vret 33 dX9_counts_33 rfl (Nat.le_of_ble_eq_true rfl) (Nat.le_of_ble_eq_true rfl) ⟨rfl, rfl⟩
  · replace H := x_ifp c9 H
    refine x_aload_n 23 0 dX9_counts_23 rfl rfl ?_
    refine x_dup 24 dX9_counts_24 rfl ?_
    refine x_getf 25 173 9 5 (.int (x_i M3 v0 5)) dX9_counts_25 lk_1035 (by decide) (by decide) rfl (fun _ => rfl) h5 ?_
    refine x_iconst 28 (1 : Int32) dX9_counts_28 (by decide) ?_
    refine x_iadd 29 dX9_counts_29 ?_
    obtain ⟨M10, w11, H⟩ := x_lt_of H
    have h12 : x_tag M10 v0 = 9 + 10 := by rw [w11]; exact h5
    have h13 : x_at M10 (x_r M v0 12) 1 v1 = true := by rw [w11]; exact h6
    have h14 : x_tag M10 (x_r M v0 12) = 1 := by rw [w11]; exact h7
    have h15 : x_at M10 (x_r M3 v0 12) 1 v1 = true := by rw [w11]; exact h8
    have h16 : x_tag M10 (x_r M3 v0 12) = 1 := by rw [w11]; exact (x_at_1 h8)
    refine x_putI' 30 173 9 5 dX9_counts_30 lk_1035 (by decide) (by decide) rfl (Or.inl rfl) (Or.inl rfl) h5 w11 ?_
    cases H
    exact x_vret 33 dX9_counts_33 rfl (Nat.le_of_ble_eq_true rfl) (Nat.le_of_ble_eq_true rfl) ⟨rfl, rfl⟩

theorem ct_X9_counts (l : Launch) {v0 : Nat} {v1 : Int32} {M : XM} {q : XM} (H : f_X9_counts v0 v1 M = some q) : Ct l m_X9_counts 1 0 0 [(.ref v0), (.int v1)] M (x_Rv q) := x_met l m_X9_counts 1 0 0 [(.ref v0), (.int v1)] M (x_Rv q) _ rfl rfl (Nat.le_of_ble_eq_true rfl) (t_X9_counts l H)
theorem lk_1447 : Cond.code yX9_counts cX9_counts 2 none ∈ x_TB := x_tb (k := 1447) (by decide +kernel) rfl
theorem lk_1444 : Cond.methodLink RX9 270 yX9_counts ∈ x_TB := x_tb (k := 1444) (by decide +kernel) rfl
theorem lk_76 : Cond.selects RX9 yX9_counts yX9_counts ∈ x_TB := x_tb (k := 76) (by decide +kernel) rfl
theorem lk_1446 : Cond.instanceMethod yX9_counts ∈ x_TB := x_tb (k := 1446) (by decide +kernel) rfl
abbrev m_X9_knits : XU := (yX9_knits, cX9_knits, 4, (some .int))
theorem cn_X9_knits : m_X9_knits.1.cls ≠ "java/lang/invoke/MethodHandle" ∧ m_X9_knits.1.cls ≠ "java/lang/invoke/VarHandle" ∧ (parseMethodDescriptor m_X9_knits.1.desc).map (fun q => q.parameters.length) = some 2 := by decide +kernel
def f_X9_knits_25 (v0 : Nat) (M : XM) : Option (Int32 × XM) :=
  if x_tag M v0 = 9 + 10 then (x_bd (f_X9_no v0 (-6 : Int32) M) (fun r13 M12 => some (r13, M12))) else none
set_option maxRecDepth 20000 in
set_option maxHeartbeats 4000000 in
theorem t_X9_knits_25 (l : Launch) {v0 : Nat} {M : XM} {q : Int32 × XM} (H : f_X9_knits_25 v0 M = some q) : AW l m_X9_knits 2 0 0 (x_Ri q) 0 0 25 [some (.ref v0), none, none, none] [] M := by
  unfold f_X9_knits_25 at H
  refine x_aload_n 25 0 dX9_knits_25 rfl rfl ?_
  refine x_bipush 26 (-6 : Int32) dX9_knits_26 (by decide) ?_
  obtain ⟨h11, H⟩ := x_ckp H
  obtain ⟨r13, M12, e14, H⟩ := x_bd_of H
  refine x_callV 28 100 9 [(.int (-6 : Int32))] [] dX9_knits_28 (ct_X9_no l e14) lk_1165 lk_1167 lk_37 (by decide) h11 lk_94 lk_1168 ⟨cn_X9_no, (by decide), by decide⟩ rfl (Nat.le_of_ble_eq_true rfl) (Nat.le_of_ble_eq_true rfl) (Nat.le_of_ble_eq_true rfl) (x_ri ?_)
  cases H
  exact x_iret 31 dX9_knits_31 .int rfl rfl (Nat.le_of_ble_eq_true rfl) (Nat.le_of_ble_eq_true rfl) ⟨rfl, rfl⟩

def f_X9_knits_63 (v0 : Nat) (v1 : Int32) (M : XM) : Option (Int32 × XM) :=
  if x_tag M v0 = 9 + 10 then (if x_at M (x_r M v0 12) 1 v1 = true then (some ((x_i M (x_r M v0 12) v1.toNatClampNeg), M)) else none) else none
set_option maxRecDepth 20000 in
set_option maxHeartbeats 4000000 in
theorem t_X9_knits_63 (l : Launch) {v0 : Nat} {v1 : Int32} {M : XM} {q : Int32 × XM} (H : f_X9_knits_63 v0 v1 M = some q) : AW l m_X9_knits 2 0 0 (x_Ri q) 0 0 63 [some (.ref v0), some (.int v1), none, none] [] M := by
  unfold f_X9_knits_63 at H
  refine x_aload_n 63 0 dX9_knits_63 rfl rfl ?_
  obtain ⟨h17, H⟩ := x_ckp H
  refine x_getf 64 38 9 12 (.ref (x_r M v0 12)) dX9_knits_64 lk_1042 (by decide) (by decide) rfl (fun _ => rfl) h17 ?_
  refine x_iload_n 67 1 dX9_knits_67 rfl rfl ?_
  obtain ⟨h18, H⟩ := x_ckp H
  refine x_iald 68 dX9_knits_68 h18 ?_
  cases H
  exact x_iret 69 dX9_knits_69 .int rfl rfl (Nat.le_of_ble_eq_true rfl) (Nat.le_of_ble_eq_true rfl) ⟨rfl, rfl⟩

def f_X9_knits_c54 (κ34 : Nat → Int32 → Int32 → Int32 → XM → Option (Int32 × XM)) (v0 : Nat) (v1 : Int32) (v2 : Int32) (v3 : Int32) (M : XM) : Option (Int32 × XM) :=
  κ34 v0 v1 v2 (v3 + (1 : Int32)) M
set_option maxRecDepth 20000 in
set_option maxHeartbeats 4000000 in
theorem t_X9_knits_c54 (l : Launch) {κ34 : Nat → Int32 → Int32 → Int32 → XM → Option (Int32 × XM)} {v0 : Nat} {v1 : Int32} {v2 : Int32} {v3 : Int32} {M : XM} {q : Int32 × XM} (hκ34 : ∀ (v0 : Nat) (v1 : Int32) (v2 : Int32) (v3 : Int32) (M : XM), κ34 v0 v1 v2 v3 M = some q → AW l m_X9_knits 2 0 0 (x_Ri q) 0 0 34 [some (.ref v0), some (.int v1), some (.int v2), some (.int v3)] [] M) (H : f_X9_knits_c54 κ34 v0 v1 v2 v3 M = some q) : AW l m_X9_knits 2 0 0 (x_Ri q) 0 0 57 [some (.ref v0), some (.int v1), some (.int v2), some (.int v3)] [] M := by
  unfold f_X9_knits_c54 at H
  refine x_iinc 57 3 (v3 + (1 : Int32)) [some (.ref v0), some (.int v1), some (.int v2), some (.int (v3 + (1 : Int32)))] dX9_knits_57 rfl (congrArg (fun z : Int32 => v3 + z) (show Int32.ofInt (1) = (1 : Int32) by decide)) rfl (Nat.le_of_ble_eq_true rfl) rfl ?_
  refine x_goto 60 34 dX9_knits_60 (by decide) ?_
  exact hκ34 _ _ _ _ _ H

def bd_X9_knits_34 (κ34 : Nat → Int32 → Int32 → Int32 → XM → Option (Int32 × XM)) (v0 : Nat) (v1 : Int32) (v2 : Int32) (v3 : Int32) (M : XM) : Option (Int32 × XM) :=
  if v2 ≤ v3 then (f_X9_knits_63 v0 v1 M) else (if x_tag M v0 = 9 + 10 then (if x_at M (x_r M v0 12) 1 v1 = true then (if (x_i M v0 1) ≤ (x_i M (x_r M v0 12) v1.toNatClampNeg) then (f_X9_knits_63 v0 v1 M) else (x_bv (f_X9_counts v0 v1 M) (f_X9_knits_c54 κ34 v0 v1 v2 v3))) else none) else none)
set_option maxRecDepth 20000 in
set_option maxHeartbeats 4000000 in
theorem tb_X9_knits_34 (l : Launch) {κ34 : Nat → Int32 → Int32 → Int32 → XM → Option (Int32 × XM)} {v0 : Nat} {v1 : Int32} {v2 : Int32} {v3 : Int32} {M : XM} {q : Int32 × XM} (hκ34 : ∀ (v0 : Nat) (v1 : Int32) (v2 : Int32) (v3 : Int32) (M : XM), κ34 v0 v1 v2 v3 M = some q → AW l m_X9_knits 2 0 0 (x_Ri q) 0 0 34 [some (.ref v0), some (.int v1), some (.int v2), some (.int v3)] [] M) (H : bd_X9_knits_34 κ34 v0 v1 v2 v3 M = some q) : AW l m_X9_knits 2 0 0 (x_Ri q) 0 0 34 [some (.ref v0), some (.int v1), some (.int v2), some (.int v3)] [] M := by
  unfold bd_X9_knits_34 at H
  refine x_iload_n 34 3 dX9_knits_34 rfl rfl ?_
  refine x_iload_n 35 2 dX9_knits_35 rfl rfl ?_
  refine x_icmp_ge 36 63 dX9_knits_36 (by decide) (fun c16 => ?_) (fun c16 => ?_)
  · replace H := x_ifp c16 H
    exact x_wk (le_s (le_s (le_n (le_n le_0)))) (t_X9_knits_63 l H)
  · replace H := x_ifn c16 H
    refine x_aload_n 39 0 dX9_knits_39 rfl rfl ?_
    obtain ⟨h19, H⟩ := x_ckp H
    refine x_getf 40 38 9 12 (.ref (x_r M v0 12)) dX9_knits_40 lk_1042 (by decide) (by decide) rfl (fun _ => rfl) h19 ?_
    refine x_iload_n 43 1 dX9_knits_43 rfl rfl ?_
    obtain ⟨h20, H⟩ := x_ckp H
    refine x_iald 44 dX9_knits_44 h20 ?_
    refine x_aload_n 45 0 dX9_knits_45 rfl rfl ?_
    refine x_getf 46 7 9 1 (.int (x_i M v0 1)) dX9_knits_46 lk_1031 (by decide) (by decide) rfl (fun _ => rfl) h19 ?_
    refine x_icmp_ge 49 63 dX9_knits_49 (by decide) (fun c21 => ?_) (fun c21 => ?_)
    · replace H := x_ifp c21 H
      exact x_wk (le_s (le_s (le_n (le_n le_0)))) (t_X9_knits_63 l H)
    · replace H := x_ifn c21 H
      refine x_aload_n 52 0 dX9_knits_52 rfl rfl ?_
      refine x_iload_n 53 1 dX9_knits_53 rfl rfl ?_
      obtain ⟨M22, e24, H⟩ := x_bv_of H
      refine x_callV 54 270 9 [(.int v1)] [] dX9_knits_54 (ct_X9_counts l e24) lk_1444 lk_1446 lk_76 (by decide) h19 lk_94 lk_1447 ⟨cn_X9_counts, (by decide), by decide⟩ rfl (Nat.le_of_ble_eq_true rfl) (Nat.le_of_ble_eq_true rfl) (Nat.le_of_ble_eq_true rfl) (x_rv ?_)
      exact t_X9_knits_c54 l hκ34 H

def lp_X9_knits_34 (n : Nat) : Nat → Int32 → Int32 → Int32 → XM → Option (Int32 × XM) := x_rec (fun _ _ _ _ _ => none) (bd_X9_knits_34) n
theorem t_X9_knits_34 (l : Launch) {q : Int32 × XM} : ∀ (n : Nat) (v0 : Nat) (v1 : Int32) (v2 : Int32) (v3 : Int32) (M : XM), lp_X9_knits_34 n v0 v1 v2 v3 M = some q → AW l m_X9_knits 2 0 0 (x_Ri q) 0 0 34 [some (.ref v0), some (.int v1), some (.int v2), some (.int v3)] [] M := by
  intro n
  induction n with
  | zero => intro v0 v1 v2 v3 M H; cases H
  | succ n ih => intro v0 v1 v2 v3 M H; exact tb_X9_knits_34 l ih H
def f_X9_knits_c2 (v0 : Nat) (v1 : Int32) (v2 : Int32) (s0 : Int32) (M : XM) : Option (Int32 × XM) :=
  if s0 = 0 then (if x_tag M v0 = 9 + 10 then (x_bd (f_X9_no v0 (-1 : Int32) M) (fun r8 M7 => some (r8, M7))) else none) else (if v2 < (1 : Int32) then (f_X9_knits_25 v0 M) else (if v2 ≤ (100 : Int32) then (lp_X9_knits_34 x_fuel v0 v1 v2 (0 : Int32) M) else (f_X9_knits_25 v0 M)))
set_option maxRecDepth 20000 in
set_option maxHeartbeats 4000000 in
theorem t_X9_knits_c2 (l : Launch) {v0 : Nat} {v1 : Int32} {v2 : Int32} {s0 : Int32} {M : XM} {q : Int32 × XM} (H : f_X9_knits_c2 v0 v1 v2 s0 M = some q) : AW l m_X9_knits 2 0 0 (x_Ri q) 0 0 5 [some (.ref v0), some (.int v1), some (.int v2), none] [(.int s0)] M := by
  unfold f_X9_knits_c2 at H
  refine x_if_ne 5 14 dX9_knits_5 (by decide) (fun c5 => ?_) (fun c5 => ?_)
  · replace H := x_ifn c5 H
    refine x_iload_n 14 2 dX9_knits_14 rfl rfl ?_
    refine x_iconst 15 (1 : Int32) dX9_knits_15 (by decide) ?_
    refine x_icmp_lt 16 25 dX9_knits_16 (by decide) (fun c10 => ?_) (fun c10 => ?_)
    · replace H := x_ifp c10 H
      exact x_wk (le_s (le_n (le_n (le_s le_0)))) (t_X9_knits_25 l H)
    · replace H := x_ifn c10 H
      refine x_iload_n 19 2 dX9_knits_19 rfl rfl ?_
      refine x_bipush 20 (100 : Int32) dX9_knits_20 (by decide) ?_
      refine x_icmp_le 22 32 dX9_knits_22 (by decide) (fun c15 => ?_) (fun c15 => ?_)
      · replace H := x_ifp c15 H
        refine x_iconst 32 (0 : Int32) dX9_knits_32 (by decide) ?_
        refine x_istore_n 33 3 [some (.ref v0), some (.int v1), some (.int v2), some (.int (0 : Int32))] dX9_knits_33 rfl rfl (Nat.le_of_ble_eq_true rfl) rfl ?_
        exact t_X9_knits_34 l _ _ _ _ _ _ H
      · replace H := x_ifn c15 H
        exact x_wk (le_s (le_n (le_n (le_s le_0)))) (t_X9_knits_25 l H)
  · replace H := x_ifp c5 H
    refine x_aload_n 8 0 dX9_knits_8 rfl rfl ?_
    refine x_iconst 9 (-1 : Int32) dX9_knits_9 (by decide) ?_
    obtain ⟨h6, H⟩ := x_ckp H
    obtain ⟨r8, M7, e9, H⟩ := x_bd_of H
    refine x_callV 10 100 9 [(.int (-1 : Int32))] [] dX9_knits_10 (ct_X9_no l e9) lk_1165 lk_1167 lk_37 (by decide) h6 lk_94 lk_1168 ⟨cn_X9_no, (by decide), by decide⟩ rfl (Nat.le_of_ble_eq_true rfl) (Nat.le_of_ble_eq_true rfl) (Nat.le_of_ble_eq_true rfl) (x_ri ?_)
    cases H
    exact x_iret 13 dX9_knits_13 .int rfl rfl (Nat.le_of_ble_eq_true rfl) (Nat.le_of_ble_eq_true rfl) ⟨rfl, rfl⟩

def f_X9_knits (v0 : Nat) (v1 : Int32) (v2 : Int32) (M : XM) : Option (Int32 × XM) :=
  if x_tag M v0 = 9 + 10 then (x_bd (f_X9_isCounter v0 v1 M) (f_X9_knits_c2 v0 v1 v2)) else none
set_option maxRecDepth 20000 in
set_option maxHeartbeats 4000000 in
theorem t_X9_knits (l : Launch) {v0 : Nat} {v1 : Int32} {v2 : Int32} {M : XM} {q : Int32 × XM} (H : f_X9_knits v0 v1 v2 M = some q) : AW l m_X9_knits 2 0 0 (x_Ri q) 0 0 0 [some (.ref v0), some (.int v1), some (.int v2), none] [] M := by
  unfold f_X9_knits at H
  refine x_aload_n 0 0 dX9_knits_0 rfl rfl ?_
  refine x_iload_n 1 1 dX9_knits_1 rfl rfl ?_
  obtain ⟨h1, H⟩ := x_ckp H
  obtain ⟨r3, M2, e4, H⟩ := x_bd_of H
  refine x_callV 2 104 9 [(.int v1)] [] dX9_knits_2 (ct_X9_isCounter l e4) lk_1185 lk_1187 lk_38 (by decide) h1 lk_94 lk_1188 ⟨cn_X9_isCounter, (by decide), by decide⟩ rfl (Nat.le_of_ble_eq_true rfl) (Nat.le_of_ble_eq_true rfl) (Nat.le_of_ble_eq_true rfl) (x_ri ?_)
  exact t_X9_knits_c2 l H

theorem ct_X9_knits (l : Launch) {v0 : Nat} {v1 : Int32} {v2 : Int32} {M : XM} {q : Int32 × XM} (H : f_X9_knits v0 v1 v2 M = some q) : Ct l m_X9_knits 2 0 0 [(.ref v0), (.int v1), (.int v2)] M (x_Ri q) := x_met l m_X9_knits 2 0 0 [(.ref v0), (.int v1), (.int v2)] M (x_Ri q) _ rfl rfl (Nat.le_of_ble_eq_true rfl) (t_X9_knits l H)
abbrev m_X9_asks : XU := (yX9_asks, cX9_asks, 2, (some .int))
theorem cn_X9_asks : m_X9_asks.1.cls ≠ "java/lang/invoke/MethodHandle" ∧ m_X9_asks.1.cls ≠ "java/lang/invoke/VarHandle" ∧ (parseMethodDescriptor m_X9_asks.1.desc).map (fun q => q.parameters.length) = some 1 := by decide +kernel
def f_X9_asks_c36 (v0 : Nat) (v1 : Int32) (M : XM) : Option (Int32 × XM) :=
  if x_tag M v0 = 9 + 10 then (if x_at M (x_r M v0 12) 1 v1 = true then (some ((x_i M (x_r M v0 12) v1.toNatClampNeg), M)) else none) else none
set_option maxRecDepth 20000 in
set_option maxHeartbeats 4000000 in
theorem t_X9_asks_c36 (l : Launch) {v0 : Nat} {v1 : Int32} {M : XM} {q : Int32 × XM} (H : f_X9_asks_c36 v0 v1 M = some q) : AW l m_X9_asks 3 0 0 (x_Ri q) 0 0 39 [some (.ref v0), some (.int v1)] [] M := by
  unfold f_X9_asks_c36 at H
  refine x_aload_n 39 0 dX9_asks_39 rfl rfl ?_
  obtain ⟨h19, H⟩ := x_ckp H
  refine x_getf 40 38 9 12 (.ref (x_r M v0 12)) dX9_asks_40 lk_1042 (by decide) (by decide) rfl (fun _ => rfl) h19 ?_
  refine x_iload_n 43 1 dX9_asks_43 rfl rfl ?_
  obtain ⟨h20, H⟩ := x_ckp H
  refine x_iald 44 dX9_asks_44 h20 ?_
  cases H
  exact x_iret 45 dX9_asks_45 .int rfl rfl (Nat.le_of_ble_eq_true rfl) (Nat.le_of_ble_eq_true rfl) ⟨rfl, rfl⟩

def f_X9_asks_c2 (v0 : Nat) (v1 : Int32) (s0 : Int32) (M : XM) : Option (Int32 × XM) :=
  if s0 = 0 then (if x_tag M v0 = 9 + 10 then (x_bd (f_X9_no v0 (-1 : Int32) M) (fun r8 M7 => some (r8, M7))) else none) else (if x_tag M v0 = 9 + 10 then (if x_at M (x_r M v0 12) 1 v1 = true then (if (x_i M (x_r M v0 12) v1.toNatClampNeg) = (x_i M v0 1) then (x_bd (f_X9_no v0 (-6 : Int32) M) (fun r14 M13 => some (r14, M13))) else (x_bv (f_X9_breaksOff v0 v1 M) (f_X9_asks_c36 v0 v1))) else none) else none)
set_option maxRecDepth 20000 in
set_option maxHeartbeats 4000000 in
theorem t_X9_asks_c2 (l : Launch) {v0 : Nat} {v1 : Int32} {s0 : Int32} {M : XM} {q : Int32 × XM} (H : f_X9_asks_c2 v0 v1 s0 M = some q) : AW l m_X9_asks 3 0 0 (x_Ri q) 0 0 5 [some (.ref v0), some (.int v1)] [(.int s0)] M := by
  unfold f_X9_asks_c2 at H
  refine x_if_ne 5 14 dX9_asks_5 (by decide) (fun c5 => ?_) (fun c5 => ?_)
  · replace H := x_ifn c5 H
    refine x_aload_n 14 0 dX9_asks_14 rfl rfl ?_
    obtain ⟨h10, H⟩ := x_ckp H
    refine x_getf 15 38 9 12 (.ref (x_r M v0 12)) dX9_asks_15 lk_1042 (by decide) (by decide) rfl (fun _ => rfl) h10 ?_
    refine x_iload_n 18 1 dX9_asks_18 rfl rfl ?_
    obtain ⟨h11, H⟩ := x_ckp H
    refine x_iald 19 dX9_asks_19 h11 ?_
    refine x_aload_n 20 0 dX9_asks_20 rfl rfl ?_
    refine x_getf 21 7 9 1 (.int (x_i M v0 1)) dX9_asks_21 lk_1031 (by decide) (by decide) rfl (fun _ => rfl) h10 ?_
    refine x_icmp_ne 24 34 dX9_asks_24 (by decide) (fun c12 => ?_) (fun c12 => ?_)
    · replace H := x_ifn c12 H
      refine x_aload_n 34 0 dX9_asks_34 rfl rfl ?_
      refine x_iload_n 35 1 dX9_asks_35 rfl rfl ?_
      obtain ⟨M16, e18, H⟩ := x_bv_of H
      refine x_callV 36 163 9 [(.int v1)] [] dX9_asks_36 (ct_X9_breaksOff l e18) lk_1269 lk_1271 lk_52 (by decide) h10 lk_94 lk_1272 ⟨cn_X9_breaksOff, (by decide), by decide⟩ rfl (Nat.le_of_ble_eq_true rfl) (Nat.le_of_ble_eq_true rfl) (Nat.le_of_ble_eq_true rfl) (x_rv ?_)
      exact t_X9_asks_c36 l H
    · replace H := x_ifp c12 H
      refine x_aload_n 27 0 dX9_asks_27 rfl rfl ?_
      refine x_bipush 28 (-6 : Int32) dX9_asks_28 (by decide) ?_
      obtain ⟨r14, M13, e15, H⟩ := x_bd_of H
      refine x_callV 30 100 9 [(.int (-6 : Int32))] [] dX9_asks_30 (ct_X9_no l e15) lk_1165 lk_1167 lk_37 (by decide) h10 lk_94 lk_1168 ⟨cn_X9_no, (by decide), by decide⟩ rfl (Nat.le_of_ble_eq_true rfl) (Nat.le_of_ble_eq_true rfl) (Nat.le_of_ble_eq_true rfl) (x_ri ?_)
      cases H
      exact x_iret 33 dX9_asks_33 .int rfl rfl (Nat.le_of_ble_eq_true rfl) (Nat.le_of_ble_eq_true rfl) ⟨rfl, rfl⟩
  · replace H := x_ifp c5 H
    refine x_aload_n 8 0 dX9_asks_8 rfl rfl ?_
    refine x_iconst 9 (-1 : Int32) dX9_asks_9 (by decide) ?_
    obtain ⟨h6, H⟩ := x_ckp H
    obtain ⟨r8, M7, e9, H⟩ := x_bd_of H
    refine x_callV 10 100 9 [(.int (-1 : Int32))] [] dX9_asks_10 (ct_X9_no l e9) lk_1165 lk_1167 lk_37 (by decide) h6 lk_94 lk_1168 ⟨cn_X9_no, (by decide), by decide⟩ rfl (Nat.le_of_ble_eq_true rfl) (Nat.le_of_ble_eq_true rfl) (Nat.le_of_ble_eq_true rfl) (x_ri ?_)
    cases H
    exact x_iret 13 dX9_asks_13 .int rfl rfl (Nat.le_of_ble_eq_true rfl) (Nat.le_of_ble_eq_true rfl) ⟨rfl, rfl⟩

def f_X9_asks (v0 : Nat) (v1 : Int32) (M : XM) : Option (Int32 × XM) :=
  if x_tag M v0 = 9 + 10 then (x_bd (f_X9_isCounter v0 v1 M) (f_X9_asks_c2 v0 v1)) else none
set_option maxRecDepth 20000 in
set_option maxHeartbeats 4000000 in
theorem t_X9_asks (l : Launch) {v0 : Nat} {v1 : Int32} {M : XM} {q : Int32 × XM} (H : f_X9_asks v0 v1 M = some q) : AW l m_X9_asks 3 0 0 (x_Ri q) 0 0 0 [some (.ref v0), some (.int v1)] [] M := by
  unfold f_X9_asks at H
  refine x_aload_n 0 0 dX9_asks_0 rfl rfl ?_
  refine x_iload_n 1 1 dX9_asks_1 rfl rfl ?_
  obtain ⟨h1, H⟩ := x_ckp H
  obtain ⟨r3, M2, e4, H⟩ := x_bd_of H
  refine x_callV 2 104 9 [(.int v1)] [] dX9_asks_2 (ct_X9_isCounter l e4) lk_1185 lk_1187 lk_38 (by decide) h1 lk_94 lk_1188 ⟨cn_X9_isCounter, (by decide), by decide⟩ rfl (Nat.le_of_ble_eq_true rfl) (Nat.le_of_ble_eq_true rfl) (Nat.le_of_ble_eq_true rfl) (x_ri ?_)
  exact t_X9_asks_c2 l H

theorem ct_X9_asks (l : Launch) {v0 : Nat} {v1 : Int32} {M : XM} {q : Int32 × XM} (H : f_X9_asks v0 v1 M = some q) : Ct l m_X9_asks 3 0 0 [(.ref v0), (.int v1)] M (x_Ri q) := x_met l m_X9_asks 3 0 0 [(.ref v0), (.int v1)] M (x_Ri q) _ rfl rfl (Nat.le_of_ble_eq_true rfl) (t_X9_asks l H)
abbrev m_X9_anew : XU := (yX9_anew, cX9_anew, 3, (some .int))
theorem cn_X9_anew : m_X9_anew.1.cls ≠ "java/lang/invoke/MethodHandle" ∧ m_X9_anew.1.cls ≠ "java/lang/invoke/VarHandle" ∧ (parseMethodDescriptor m_X9_anew.1.desc).map (fun q => q.parameters.length) = some 1 := by decide +kernel
def f_X9_anew (v0 : Nat) (v1 : Int32) (M : XM) : Option (Int32 × XM) :=
  if x_tag M v0 = 9 + 10 then (if x_at M (x_r M v0 12) 1 v1 = true then (x_lt (x_wi M (x_r M v0 12) v1.toNatClampNeg (0 : Int32)) (fun M3 => if x_at M3 (x_r M3 v0 13) 1 v1 = true then (x_lt (x_wi M3 (x_r M3 v0 13) v1.toNatClampNeg (0 : Int32)) (fun M9 => if x_at M9 (x_r M9 v0 14) 1 v1 = true then (x_lt (x_wi M9 (x_r M9 v0 14) v1.toNatClampNeg (0 : Int32)) (fun M17 => some ((x_i M (x_r M v0 12) v1.toNatClampNeg), M17))) else none)) else none)) else none) else none
set_option maxRecDepth 20000 in
set_option maxHeartbeats 4000000 in
theorem t_X9_anew (l : Launch) {v0 : Nat} {v1 : Int32} {M : XM} {q : Int32 × XM} (H : f_X9_anew v0 v1 M = some q) : AW l m_X9_anew 1 0 0 (x_Ri q) 0 0 0 [some (.ref v0), some (.int v1), none] [] M := by
  unfold f_X9_anew at H
  refine x_aload_n 0 0 dX9_anew_0 rfl rfl ?_
  obtain ⟨h1, H⟩ := x_ckp H
  refine x_getf 1 38 9 12 (.ref (x_r M v0 12)) dX9_anew_1 lk_1042 (by decide) (by decide) rfl (fun _ => rfl) h1 ?_
  refine x_iload_n 4 1 dX9_anew_4 rfl rfl ?_
  obtain ⟨h2, H⟩ := x_ckp H
  refine x_iald 5 dX9_anew_5 h2 ?_
  refine x_istore_n 6 2 [some (.ref v0), some (.int v1), some (.int (x_i M (x_r M v0 12) v1.toNatClampNeg))] dX9_anew_6 rfl rfl (Nat.le_of_ble_eq_true rfl) rfl ?_
  refine x_aload_n 7 0 dX9_anew_7 rfl rfl ?_
  refine x_getf 8 38 9 12 (.ref (x_r M v0 12)) dX9_anew_8 lk_1042 (by decide) (by decide) rfl (fun _ => rfl) h1 ?_
  refine x_iload_n 11 1 dX9_anew_11 rfl rfl ?_
  refine x_iconst 12 (0 : Int32) dX9_anew_12 (by decide) ?_
  obtain ⟨M3, w4, H⟩ := x_lt_of H
  have h5 : x_tag M3 v0 = 9 + 10 := by rw [w4]; exact h1
  have h6 : x_at M3 (x_r M v0 12) 1 v1 = true := by rw [w4]; exact h2
  have h7 : x_tag M3 (x_r M v0 12) = 1 := by rw [w4]; exact (x_at_1 h2)
  refine x_iast' 13 dX9_anew_13 h2 w4 ?_
  refine x_aload_n 14 0 dX9_anew_14 rfl rfl ?_
  refine x_getf 15 41 9 13 (.ref (x_r M3 v0 13)) dX9_anew_15 lk_1043 (by decide) (by decide) rfl (fun _ => rfl) h5 ?_
  refine x_iload_n 18 1 dX9_anew_18 rfl rfl ?_
  refine x_iconst 19 (0 : Int32) dX9_anew_19 (by decide) ?_
  obtain ⟨h8, H⟩ := x_ckp H
  obtain ⟨M9, w10, H⟩ := x_lt_of H
  have h11 : x_tag M9 v0 = 9 + 10 := by rw [w10]; exact h5
  have h12 : x_at M9 (x_r M v0 12) 1 v1 = true := by rw [w10]; exact h6
  have h13 : x_tag M9 (x_r M v0 12) = 1 := by rw [w10]; exact h7
  have h14 : x_at M9 (x_r M3 v0 13) 1 v1 = true := by rw [w10]; exact h8
  have h15 : x_tag M9 (x_r M3 v0 13) = 1 := by rw [w10]; exact (x_at_1 h8)
  refine x_iast' 20 dX9_anew_20 h8 w10 ?_
  refine x_aload_n 21 0 dX9_anew_21 rfl rfl ?_
  refine x_getf 22 44 9 14 (.ref (x_r M9 v0 14)) dX9_anew_22 lk_1044 (by decide) (by decide) rfl (fun _ => rfl) h11 ?_
  refine x_iload_n 25 1 dX9_anew_25 rfl rfl ?_
  refine x_iconst 26 (0 : Int32) dX9_anew_26 (by decide) ?_
  obtain ⟨h16, H⟩ := x_ckp H
  obtain ⟨M17, w18, H⟩ := x_lt_of H
  have h19 : x_tag M17 v0 = 9 + 10 := by rw [w18]; exact h11
  have h20 : x_at M17 (x_r M v0 12) 1 v1 = true := by rw [w18]; exact h12
  have h21 : x_tag M17 (x_r M v0 12) = 1 := by rw [w18]; exact h13
  have h22 : x_at M17 (x_r M3 v0 13) 1 v1 = true := by rw [w18]; exact h14
  have h23 : x_tag M17 (x_r M3 v0 13) = 1 := by rw [w18]; exact h15
  have h24 : x_at M17 (x_r M9 v0 14) 1 v1 = true := by rw [w18]; exact h16
  have h25 : x_tag M17 (x_r M9 v0 14) = 1 := by rw [w18]; exact (x_at_1 h16)
  refine x_iast' 27 dX9_anew_27 h16 w18 ?_
  refine x_iload_n 28 2 dX9_anew_28 rfl rfl ?_
  cases H
  exact x_iret 29 dX9_anew_29 .int rfl rfl (Nat.le_of_ble_eq_true rfl) (Nat.le_of_ble_eq_true rfl) ⟨rfl, rfl⟩

theorem ct_X9_anew (l : Launch) {v0 : Nat} {v1 : Int32} {M : XM} {q : Int32 × XM} (H : f_X9_anew v0 v1 M = some q) : Ct l m_X9_anew 1 0 0 [(.ref v0), (.int v1)] M (x_Ri q) := x_met l m_X9_anew 1 0 0 [(.ref v0), (.int v1)] M (x_Ri q) _ rfl rfl (Nat.le_of_ble_eq_true rfl) (t_X9_anew l H)
theorem lk_1459 : Cond.code yX9_anew cX9_anew 3 (some .int) ∈ x_TB := x_tb (k := 1459) (by decide +kernel) rfl
theorem lk_1456 : Cond.methodLink RX9 273 yX9_anew ∈ x_TB := x_tb (k := 1456) (by decide +kernel) rfl
theorem lk_77 : Cond.selects RX9 yX9_anew yX9_anew ∈ x_TB := x_tb (k := 77) (by decide +kernel) rfl
theorem lk_1458 : Cond.instanceMethod yX9_anew ∈ x_TB := x_tb (k := 1458) (by decide +kernel) rfl
abbrev m_X9_again : XU := (yX9_again, cX9_again, 2, (some .int))
theorem cn_X9_again : m_X9_again.1.cls ≠ "java/lang/invoke/MethodHandle" ∧ m_X9_again.1.cls ≠ "java/lang/invoke/VarHandle" ∧ (parseMethodDescriptor m_X9_again.1.desc).map (fun q => q.parameters.length) = some 1 := by decide +kernel
def f_X9_again_c2 (v0 : Nat) (v1 : Int32) (s0 : Int32) (M : XM) : Option (Int32 × XM) :=
  if s0 = 0 then (if x_tag M v0 = 9 + 10 then (x_bd (f_X9_no v0 (-1 : Int32) M) (fun r8 M7 => some (r8, M7))) else none) else (if x_tag M v0 = 9 + 10 then (x_bd (f_X9_anew v0 v1 M) (fun r12 M11 => some (r12, M11))) else none)
set_option maxRecDepth 20000 in
set_option maxHeartbeats 4000000 in
theorem t_X9_again_c2 (l : Launch) {v0 : Nat} {v1 : Int32} {s0 : Int32} {M : XM} {q : Int32 × XM} (H : f_X9_again_c2 v0 v1 s0 M = some q) : AW l m_X9_again 2 0 0 (x_Ri q) 0 0 5 [some (.ref v0), some (.int v1)] [(.int s0)] M := by
  unfold f_X9_again_c2 at H
  refine x_if_eq 5 16 dX9_again_5 (by decide) (fun c5 => ?_) (fun c5 => ?_)
  · replace H := x_ifp c5 H
    refine x_aload_n 16 0 dX9_again_16 rfl rfl ?_
    refine x_iconst 17 (-1 : Int32) dX9_again_17 (by decide) ?_
    obtain ⟨h6, H⟩ := x_ckp H
    obtain ⟨r8, M7, e9, H⟩ := x_bd_of H
    refine x_callV 18 100 9 [(.int (-1 : Int32))] [] dX9_again_18 (ct_X9_no l e9) lk_1165 lk_1167 lk_37 (by decide) h6 lk_94 lk_1168 ⟨cn_X9_no, (by decide), by decide⟩ rfl (Nat.le_of_ble_eq_true rfl) (Nat.le_of_ble_eq_true rfl) (Nat.le_of_ble_eq_true rfl) (x_ri ?_)
    cases H
    exact x_iret 21 dX9_again_21 .int rfl rfl (Nat.le_of_ble_eq_true rfl) (Nat.le_of_ble_eq_true rfl) ⟨rfl, rfl⟩
  · replace H := x_ifn c5 H
    refine x_aload_n 8 0 dX9_again_8 rfl rfl ?_
    refine x_iload_n 9 1 dX9_again_9 rfl rfl ?_
    obtain ⟨h10, H⟩ := x_ckp H
    obtain ⟨r12, M11, e13, H⟩ := x_bd_of H
    refine x_callV 10 273 9 [(.int v1)] [] dX9_again_10 (ct_X9_anew l e13) lk_1456 lk_1458 lk_77 (by decide) h10 lk_94 lk_1459 ⟨cn_X9_anew, (by decide), by decide⟩ rfl (Nat.le_of_ble_eq_true rfl) (Nat.le_of_ble_eq_true rfl) (Nat.le_of_ble_eq_true rfl) (x_ri ?_)
    refine x_goto 13 21 dX9_again_13 (by decide) ?_
    cases H
    exact x_iret 21 dX9_again_21 .int rfl rfl (Nat.le_of_ble_eq_true rfl) (Nat.le_of_ble_eq_true rfl) ⟨rfl, rfl⟩

def f_X9_again (v0 : Nat) (v1 : Int32) (M : XM) : Option (Int32 × XM) :=
  if x_tag M v0 = 9 + 10 then (x_bd (f_X9_isCounter v0 v1 M) (f_X9_again_c2 v0 v1)) else none
set_option maxRecDepth 20000 in
set_option maxHeartbeats 4000000 in
theorem t_X9_again (l : Launch) {v0 : Nat} {v1 : Int32} {M : XM} {q : Int32 × XM} (H : f_X9_again v0 v1 M = some q) : AW l m_X9_again 2 0 0 (x_Ri q) 0 0 0 [some (.ref v0), some (.int v1)] [] M := by
  unfold f_X9_again at H
  refine x_aload_n 0 0 dX9_again_0 rfl rfl ?_
  refine x_iload_n 1 1 dX9_again_1 rfl rfl ?_
  obtain ⟨h1, H⟩ := x_ckp H
  obtain ⟨r3, M2, e4, H⟩ := x_bd_of H
  refine x_callV 2 104 9 [(.int v1)] [] dX9_again_2 (ct_X9_isCounter l e4) lk_1185 lk_1187 lk_38 (by decide) h1 lk_94 lk_1188 ⟨cn_X9_isCounter, (by decide), by decide⟩ rfl (Nat.le_of_ble_eq_true rfl) (Nat.le_of_ble_eq_true rfl) (Nat.le_of_ble_eq_true rfl) (x_ri ?_)
  exact t_X9_again_c2 l H

theorem ct_X9_again (l : Launch) {v0 : Nat} {v1 : Int32} {M : XM} {q : Int32 × XM} (H : f_X9_again v0 v1 M = some q) : Ct l m_X9_again 2 0 0 [(.ref v0), (.int v1)] M (x_Ri q) := x_met l m_X9_again 2 0 0 [(.ref v0), (.int v1)] M (x_Ri q) _ rfl rfl (Nat.le_of_ble_eq_true rfl) (t_X9_again l H)
theorem lk_1472 : Cond.constant RX9 276 (1103515245 : Int32) ∈ x_TB := x_tb (k := 1472) (by decide +kernel) rfl
abbrev m_X9_draw : XU := (yX9_draw, cX9_draw, 2, (some .int))
theorem cn_X9_draw : m_X9_draw.1.cls ≠ "java/lang/invoke/MethodHandle" ∧ m_X9_draw.1.cls ≠ "java/lang/invoke/VarHandle" ∧ (parseMethodDescriptor m_X9_draw.1.desc).map (fun q => q.parameters.length) = some 1 := by decide +kernel
def f_X9_draw (v0 : Nat) (v1 : Int32) (M : XM) : Option (Int32 × XM) :=
  if x_tag M v0 = 9 + 10 then (x_lt (x_wi M v0 7 (((x_i M v0 7) * (1103515245 : Int32)) + (12345 : Int32))) (fun M2 => if v1 = 0 then none else some (((((x_i M2 v0 7).toUInt32 >>> ((16 : Int32).toUInt32 &&& Int32.toUInt32 31)).toInt32) - (((x_i M2 v0 7).toUInt32 >>> ((16 : Int32).toUInt32 &&& Int32.toUInt32 31)).toInt32) / v1 * v1), M2))) else none
set_option maxRecDepth 20000 in
set_option maxHeartbeats 4000000 in
theorem t_X9_draw (l : Launch) {v0 : Nat} {v1 : Int32} {M : XM} {q : Int32 × XM} (H : f_X9_draw v0 v1 M = some q) : AW l m_X9_draw 1 0 0 (x_Ri q) 0 0 0 [some (.ref v0), some (.int v1)] [] M := by
  unfold f_X9_draw at H
  refine x_aload_n 0 0 dX9_draw_0 rfl rfl ?_
  refine x_aload_n 1 0 dX9_draw_1 rfl rfl ?_
  obtain ⟨h1, H⟩ := x_ckp H
  refine x_getf 2 22 9 7 (.int (x_i M v0 7)) dX9_draw_2 lk_1037 (by decide) (by decide) rfl (fun _ => rfl) h1 ?_
  refine x_ldcw 5 (1103515245 : Int32) dX9_draw_5 lk_1472 ?_
  refine x_imul 8 dX9_draw_8 ?_
  refine x_sipush 9 (12345 : Int32) dX9_draw_9 (by decide) ?_
  refine x_iadd 12 dX9_draw_12 ?_
  obtain ⟨M2, w3, H⟩ := x_lt_of H
  have h4 : x_tag M2 v0 = 9 + 10 := by rw [w3]; exact h1
  refine x_putI' 13 22 9 7 dX9_draw_13 lk_1037 (by decide) (by decide) rfl (Or.inl rfl) (Or.inl rfl) h1 w3 ?_
  refine x_aload_n 16 0 dX9_draw_16 rfl rfl ?_
  refine x_getf 17 22 9 7 (.int (x_i M2 v0 7)) dX9_draw_17 lk_1037 (by decide) (by decide) rfl (fun _ => rfl) h4 ?_
  refine x_bipush 20 (16 : Int32) dX9_draw_20 (by decide) ?_
  refine x_iushr 22 dX9_draw_22 ?_
  refine x_iload_n 23 1 dX9_draw_23 rfl rfl ?_
  obtain ⟨h5, H⟩ := x_cnz H
  refine x_irem 24 dX9_draw_24 h5 ?_
  cases H
  exact x_iret 25 dX9_draw_25 .int rfl rfl (Nat.le_of_ble_eq_true rfl) (Nat.le_of_ble_eq_true rfl) ⟨rfl, rfl⟩

theorem ct_X9_draw (l : Launch) {v0 : Nat} {v1 : Int32} {M : XM} {q : Int32 × XM} (H : f_X9_draw v0 v1 M = some q) : Ct l m_X9_draw 1 0 0 [(.ref v0), (.int v1)] M (x_Ri q) := x_met l m_X9_draw 1 0 0 [(.ref v0), (.int v1)] M (x_Ri q) _ rfl rfl (Nat.le_of_ble_eq_true rfl) (t_X9_draw l H)
abbrev m_X9_areThrough : XU := (yX9_areThrough, cX9_areThrough, 2, (some .boolean))
theorem cn_X9_areThrough : m_X9_areThrough.1.cls ≠ "java/lang/invoke/MethodHandle" ∧ m_X9_areThrough.1.cls ≠ "java/lang/invoke/VarHandle" ∧ (parseMethodDescriptor m_X9_areThrough.1.desc).map (fun q => q.parameters.length) = some 0 := by decide +kernel
def bd_X9_areThrough_2 (κ2 : Nat → Int32 → XM → Option (Int32 × XM)) (v0 : Nat) (v1 : Int32) (M : XM) : Option (Int32 × XM) :=
  if x_tag M v0 = 9 + 10 then (if (x_i M v0 0) ≤ v1 then (some ((1 : Int32), M)) else (if x_at M (x_r M v0 12) 1 v1 = true then (if (x_i M v0 1) ≤ (x_i M (x_r M v0 12) v1.toNatClampNeg) then (κ2 v0 (v1 + (1 : Int32)) M) else (some ((0 : Int32), M))) else none)) else none
set_option maxRecDepth 20000 in
set_option maxHeartbeats 4000000 in
theorem tb_X9_areThrough_2 (l : Launch) {κ2 : Nat → Int32 → XM → Option (Int32 × XM)} {v0 : Nat} {v1 : Int32} {M : XM} {q : Int32 × XM} (hκ2 : ∀ (v0 : Nat) (v1 : Int32) (M : XM), κ2 v0 v1 M = some q → AW l m_X9_areThrough 1 0 0 (x_Ri q) 0 0 2 [some (.ref v0), some (.int v1)] [] M) (H : bd_X9_areThrough_2 κ2 v0 v1 M = some q) : AW l m_X9_areThrough 1 0 0 (x_Ri q) 0 0 2 [some (.ref v0), some (.int v1)] [] M := by
  unfold bd_X9_areThrough_2 at H
  refine x_iload_n 2 1 dX9_areThrough_2 rfl rfl ?_
  refine x_aload_n 3 0 dX9_areThrough_3 rfl rfl ?_
  obtain ⟨h1, H⟩ := x_ckp H
  refine x_getf 4 93 9 0 (.int (x_i M v0 0)) dX9_areThrough_4 lk_1030 (by decide) (by decide) rfl (fun _ => rfl) h1 ?_
  refine x_icmp_ge 7 31 dX9_areThrough_7 (by decide) (fun c2 => ?_) (fun c2 => ?_)
  · replace H := x_ifp c2 H
    refine x_iconst 31 (1 : Int32) dX9_areThrough_31 (by decide) ?_
    cases H
    exact x_iret 32 dX9_areThrough_32 .boolean rfl rfl (Nat.le_of_ble_eq_true rfl) (Nat.le_of_ble_eq_true rfl) ⟨rfl, rfl⟩
  · replace H := x_ifn c2 H
    refine x_aload_n 10 0 dX9_areThrough_10 rfl rfl ?_
    refine x_getf 11 38 9 12 (.ref (x_r M v0 12)) dX9_areThrough_11 lk_1042 (by decide) (by decide) rfl (fun _ => rfl) h1 ?_
    refine x_iload_n 14 1 dX9_areThrough_14 rfl rfl ?_
    obtain ⟨h3, H⟩ := x_ckp H
    refine x_iald 15 dX9_areThrough_15 h3 ?_
    refine x_aload_n 16 0 dX9_areThrough_16 rfl rfl ?_
    refine x_getf 17 7 9 1 (.int (x_i M v0 1)) dX9_areThrough_17 lk_1031 (by decide) (by decide) rfl (fun _ => rfl) h1 ?_
    refine x_icmp_ge 20 25 dX9_areThrough_20 (by decide) (fun c4 => ?_) (fun c4 => ?_)
    · replace H := x_ifp c4 H
      refine x_iinc 25 1 (v1 + (1 : Int32)) [some (.ref v0), some (.int (v1 + (1 : Int32)))] dX9_areThrough_25 rfl (congrArg (fun z : Int32 => v1 + z) (show Int32.ofInt (1) = (1 : Int32) by decide)) rfl (Nat.le_of_ble_eq_true rfl) rfl ?_
      refine x_goto 28 2 dX9_areThrough_28 (by decide) ?_
      exact hκ2 _ _ _ H
    · replace H := x_ifn c4 H
      refine x_iconst 23 (0 : Int32) dX9_areThrough_23 (by decide) ?_
      cases H
      exact x_iret 24 dX9_areThrough_24 .boolean rfl rfl (Nat.le_of_ble_eq_true rfl) (Nat.le_of_ble_eq_true rfl) ⟨rfl, rfl⟩

def lp_X9_areThrough_2 (n : Nat) : Nat → Int32 → XM → Option (Int32 × XM) := x_rec (fun _ _ _ => none) (bd_X9_areThrough_2) n
theorem t_X9_areThrough_2 (l : Launch) {q : Int32 × XM} : ∀ (n : Nat) (v0 : Nat) (v1 : Int32) (M : XM), lp_X9_areThrough_2 n v0 v1 M = some q → AW l m_X9_areThrough 1 0 0 (x_Ri q) 0 0 2 [some (.ref v0), some (.int v1)] [] M := by
  intro n
  induction n with
  | zero => intro v0 v1 M H; cases H
  | succ n ih => intro v0 v1 M H; exact tb_X9_areThrough_2 l ih H
def f_X9_areThrough (v0 : Nat) (M : XM) : Option (Int32 × XM) :=
  lp_X9_areThrough_2 x_fuel v0 (0 : Int32) M
set_option maxRecDepth 20000 in
set_option maxHeartbeats 4000000 in
theorem t_X9_areThrough (l : Launch) {v0 : Nat} {M : XM} {q : Int32 × XM} (H : f_X9_areThrough v0 M = some q) : AW l m_X9_areThrough 1 0 0 (x_Ri q) 0 0 0 [some (.ref v0), none] [] M := by
  unfold f_X9_areThrough at H
  refine x_iconst 0 (0 : Int32) dX9_areThrough_0 (by decide) ?_
  refine x_istore_n 1 1 [some (.ref v0), some (.int (0 : Int32))] dX9_areThrough_1 rfl rfl (Nat.le_of_ble_eq_true rfl) rfl ?_
  exact t_X9_areThrough_2 l _ _ _ _ H

theorem ct_X9_areThrough (l : Launch) {v0 : Nat} {M : XM} {q : Int32 × XM} (H : f_X9_areThrough v0 M = some q) : Ct l m_X9_areThrough 1 0 0 [(.ref v0)] M (x_Ri q) := x_met l m_X9_areThrough 1 0 0 [(.ref v0)] M (x_Ri q) _ rfl rfl (Nat.le_of_ble_eq_true rfl) (t_X9_areThrough l H)
