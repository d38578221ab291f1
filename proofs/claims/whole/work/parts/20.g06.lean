theorem lk_741 : Cond.code yX8_partRefusal cX8_partRefusal 4 (some .int) ∈ x_TB := x_tb (k := 741) (by decide +kernel) rfl
theorem lk_738 : Cond.methodLink RX8 214 yX8_partRefusal ∈ x_TB := x_tb (k := 738) (by decide +kernel) rfl
theorem lk_15 : Cond.selects RX8 yX8_partRefusal yX8_partRefusal ∈ x_TB := x_tb (k := 15) (by decide +kernel) rfl
theorem lk_740 : Cond.instanceMethod yX8_partRefusal ∈ x_TB := x_tb (k := 740) (by decide +kernel) rfl
abbrev m_X8_run : XU := (yX8_run, cX8_run, 8, (some .int))
theorem cn_X8_run : m_X8_run.1.cls ≠ "java/lang/invoke/MethodHandle" ∧ m_X8_run.1.cls ≠ "java/lang/invoke/VarHandle" ∧ (parseMethodDescriptor m_X8_run.1.desc).map (fun q => q.parameters.length) = some 5 := by decide +kernel
def f_X8_run_c116 (κ105 : Nat → Int32 → Int32 → Int32 → XM → Option (Int32 × XM)) (v0 : Nat) (v4 : Int32) (v5 : Int32) (v7 : Int32) (M : XM) : Option (Int32 × XM) :=
  κ105 v0 v4 v5 (v7 + (1 : Int32)) M
set_option maxRecDepth 20000 in
set_option maxHeartbeats 4000000 in
theorem t_X8_run_c116 (l : Launch) {κ105 : Nat → Int32 → Int32 → Int32 → XM → Option (Int32 × XM)} {v0 : Nat} {v4 : Int32} {v5 : Int32} {v7 : Int32} {M : XM} {q : Int32 × XM} (hκ105 : ∀ (v0 : Nat) (v4 : Int32) (v5 : Int32) (v7 : Int32) (M : XM), κ105 v0 v4 v5 v7 M = some q → AW l m_X8_run 5 0 0 (x_Ri q) 0 0 105 [some (.ref v0), none, none, none, some (.int v4), some (.int v5), none, some (.int v7)] [] M) (H : f_X8_run_c116 κ105 v0 v4 v5 v7 M = some q) : AW l m_X8_run 5 0 0 (x_Ri q) 0 0 119 [some (.ref v0), none, none, none, some (.int v4), some (.int v5), none, some (.int v7)] [] M := by
  unfold f_X8_run_c116 at H
  refine x_iinc 119 7 (v7 + (1 : Int32)) [some (.ref v0), none, none, none, some (.int v4), some (.int v5), none, some (.int (v7 + (1 : Int32)))] dX8_run_119 rfl (congrArg (fun z : Int32 => v7 + z) (show Int32.ofInt (1) = (1 : Int32) by decide)) rfl (Nat.le_of_ble_eq_true rfl) rfl ?_
  refine x_goto 122 105 dX8_run_122 (by decide) ?_
  exact hκ105 _ _ _ _ _ H

def bd_X8_run_105 (κ105 : Nat → Int32 → Int32 → Int32 → XM → Option (Int32 × XM)) (v0 : Nat) (v4 : Int32) (v5 : Int32) (v7 : Int32) (M : XM) : Option (Int32 × XM) :=
  if v4 ≤ v7 then (if v5 = 0 then (if x_tag M v0 = 8 + 10 then (if x_tag M (x_r M v0 7) = 7 + 10 then (if x_tag M (x_r M (x_r M v0 7) 0) = 2 + 10 then (some ((x_i M (x_r M (x_r M v0 7) 0) 2), M)) else none) else none) else none) else (if v5 = (1 : Int32) then (if x_tag M v0 = 8 + 10 then (if x_tag M (x_r M v0 7) = 7 + 10 then (if x_tag M (x_r M (x_r M v0 7) 0) = 2 + 10 then (some ((x_i M (x_r M (x_r M v0 7) 0) 3), M)) else none) else none) else none) else (if x_tag M v0 = 8 + 10 then (if x_tag M (x_r M v0 7) = 7 + 10 then (if x_tag M (x_r M (x_r M v0 7) 0) = 2 + 10 then (some ((x_i M (x_r M (x_r M v0 7) 0) 4), M)) else none) else none) else none))) else (if x_tag M v0 = 8 + 10 then (if x_tag M (x_r M v0 7) = 7 + 10 then (x_bv (f_X7_step (x_r M v0 7) M) (f_X8_run_c116 κ105 v0 v4 v5 v7)) else none) else none)
set_option maxRecDepth 20000 in
set_option maxHeartbeats 4000000 in
theorem tb_X8_run_105 (l : Launch) {κ105 : Nat → Int32 → Int32 → Int32 → XM → Option (Int32 × XM)} {v0 : Nat} {v4 : Int32} {v5 : Int32} {v7 : Int32} {M : XM} {q : Int32 × XM} (hκ105 : ∀ (v0 : Nat) (v4 : Int32) (v5 : Int32) (v7 : Int32) (M : XM), κ105 v0 v4 v5 v7 M = some q → AW l m_X8_run 5 0 0 (x_Ri q) 0 0 105 [some (.ref v0), none, none, none, some (.int v4), some (.int v5), none, some (.int v7)] [] M) (H : bd_X8_run_105 κ105 v0 v4 v5 v7 M = some q) : AW l m_X8_run 5 0 0 (x_Ri q) 0 0 105 [some (.ref v0), none, none, none, some (.int v4), some (.int v5), none, some (.int v7)] [] M := by
  unfold bd_X8_run_105 at H
  refine x_iload 105 7 dX8_run_105 rfl ?_
  refine x_iload 107 4 dX8_run_107 rfl ?_
  refine x_icmp_ge 109 125 dX8_run_109 (by decide) (fun c17 => ?_) (fun c17 => ?_)
  · replace H := x_ifp c17 H
    refine x_iload 125 5 dX8_run_125 rfl ?_
    refine x_if_ne 127 141 dX8_run_127 (by decide) (fun c18 => ?_) (fun c18 => ?_)
    · replace H := x_ifn c18 H
      refine x_iload 141 5 dX8_run_141 rfl ?_
      refine x_iconst 143 (1 : Int32) dX8_run_143 (by decide) ?_
      refine x_icmp_ne 144 160 dX8_run_144 (by decide) (fun c22 => ?_) (fun c22 => ?_)
      · replace H := x_ifn c22 H
        refine x_aload_n 160 0 dX8_run_160 rfl rfl ?_
        obtain ⟨h26, H⟩ := x_ckp H
        refine x_getf 161 43 8 7 (.ref (x_r M v0 7)) dX8_run_161 lk_367 (by decide) (by decide) rfl (fun _ => rfl) h26 ?_
        obtain ⟨h27, H⟩ := x_ckp H
        refine x_getf 164 227 7 0 (.ref (x_r M (x_r M v0 7) 0)) dX8_run_164 lk_243 (by decide) (by decide) rfl (fun _ => rfl) h27 ?_
        obtain ⟨h28, H⟩ := x_ckp H
        refine x_getf 167 175 2 4 (.int (x_i M (x_r M (x_r M v0 7) 0) 4)) dX8_run_167 lk_141 (by decide) (by decide) rfl (fun _ => rfl) h28 ?_
        cases H
        exact x_iret 170 dX8_run_170 .int rfl rfl (Nat.le_of_ble_eq_true rfl) (Nat.le_of_ble_eq_true rfl) ⟨rfl, rfl⟩
      · replace H := x_ifp c22 H
        refine x_aload_n 147 0 dX8_run_147 rfl rfl ?_
        obtain ⟨h23, H⟩ := x_ckp H
        refine x_getf 148 43 8 7 (.ref (x_r M v0 7)) dX8_run_148 lk_367 (by decide) (by decide) rfl (fun _ => rfl) h23 ?_
        obtain ⟨h24, H⟩ := x_ckp H
        refine x_getf 151 227 7 0 (.ref (x_r M (x_r M v0 7) 0)) dX8_run_151 lk_243 (by decide) (by decide) rfl (fun _ => rfl) h24 ?_
        obtain ⟨h25, H⟩ := x_ckp H
        refine x_getf 154 172 2 3 (.int (x_i M (x_r M (x_r M v0 7) 0) 3)) dX8_run_154 lk_137 (by decide) (by decide) rfl (fun _ => rfl) h25 ?_
        refine x_goto 157 170 dX8_run_157 (by decide) ?_
        cases H
        exact x_iret 170 dX8_run_170 .int rfl rfl (Nat.le_of_ble_eq_true rfl) (Nat.le_of_ble_eq_true rfl) ⟨rfl, rfl⟩
    · replace H := x_ifp c18 H
      refine x_aload_n 130 0 dX8_run_130 rfl rfl ?_
      obtain ⟨h19, H⟩ := x_ckp H
      refine x_getf 131 43 8 7 (.ref (x_r M v0 7)) dX8_run_131 lk_367 (by decide) (by decide) rfl (fun _ => rfl) h19 ?_
      obtain ⟨h20, H⟩ := x_ckp H
      refine x_getf 134 227 7 0 (.ref (x_r M (x_r M v0 7) 0)) dX8_run_134 lk_243 (by decide) (by decide) rfl (fun _ => rfl) h20 ?_
      obtain ⟨h21, H⟩ := x_ckp H
      refine x_getf 137 169 2 2 (.int (x_i M (x_r M (x_r M v0 7) 0) 2)) dX8_run_137 lk_135 (by decide) (by decide) rfl (fun _ => rfl) h21 ?_
      cases H
      exact x_iret 140 dX8_run_140 .int rfl rfl (Nat.le_of_ble_eq_true rfl) (Nat.le_of_ble_eq_true rfl) ⟨rfl, rfl⟩
  · replace H := x_ifn c17 H
    refine x_aload_n 112 0 dX8_run_112 rfl rfl ?_
    obtain ⟨h29, H⟩ := x_ckp H
    refine x_getf 113 43 8 7 (.ref (x_r M v0 7)) dX8_run_113 lk_367 (by decide) (by decide) rfl (fun _ => rfl) h29 ?_
    obtain ⟨h30, H⟩ := x_ckp H
    obtain ⟨M31, e33, H⟩ := x_bv_of H
    refine x_callV 116 224 7 [] [] dX8_run_116 (ct_X7_step l e33) lk_754 lk_755 lk_756 (by decide) h30 lk_89 lk_757 ⟨cn_X7_step, (by decide), by decide⟩ rfl (Nat.le_of_ble_eq_true rfl) (Nat.le_of_ble_eq_true rfl) (Nat.le_of_ble_eq_true rfl) (x_rv ?_)
    exact t_X8_run_c116 l hκ105 H

def lp_X8_run_105 (n : Nat) : Nat → Int32 → Int32 → Int32 → XM → Option (Int32 × XM) := x_rec (fun _ _ _ _ _ => none) (bd_X8_run_105) n
theorem t_X8_run_105 (l : Launch) {q : Int32 × XM} : ∀ (n : Nat) (v0 : Nat) (v4 : Int32) (v5 : Int32) (v7 : Int32) (M : XM), lp_X8_run_105 n v0 v4 v5 v7 M = some q → AW l m_X8_run 5 0 0 (x_Ri q) 0 0 105 [some (.ref v0), none, none, none, some (.int v4), some (.int v5), none, some (.int v7)] [] M := by
  intro n
  induction n with
  | zero => intro v0 v4 v5 v7 M H; cases H
  | succ n ih => intro v0 v4 v5 v7 M H; exact tb_X8_run_105 l ih H
def f_X8_run_c99 (v0 : Nat) (v4 : Int32) (v5 : Int32) (M : XM) : Option (Int32 × XM) :=
  lp_X8_run_105 x_fuel v0 v4 v5 (0 : Int32) M
set_option maxRecDepth 20000 in
set_option maxHeartbeats 4000000 in
theorem t_X8_run_c99 (l : Launch) {v0 : Nat} {v4 : Int32} {v5 : Int32} {M : XM} {q : Int32 × XM} (H : f_X8_run_c99 v0 v4 v5 M = some q) : AW l m_X8_run 5 0 0 (x_Ri q) 0 0 102 [some (.ref v0), none, none, none, some (.int v4), some (.int v5), none, none] [] M := by
  unfold f_X8_run_c99 at H
  refine x_iconst 102 (0 : Int32) dX8_run_102 (by decide) ?_
  refine x_istore 103 7 [some (.ref v0), none, none, none, some (.int v4), some (.int v5), none, some (.int (0 : Int32))] dX8_run_103 rfl (Nat.le_of_ble_eq_true rfl) rfl ?_
  exact t_X8_run_105 l _ _ _ _ _ _ H

def f_X8_run_71 (v0 : Nat) (v1 : Int32) (v2 : Int32) (v3 : Int32) (v4 : Int32) (v5 : Int32) (v6 : Int32) (M : XM) : Option (Int32 × XM) :=
  if v6 = 0 then (if x_tag M v0 = 8 + 10 then (if x_at M (x_r M v0 5) 4 v2 = true then (if x_tag M (x_r M v0 7) = 7 + 10 then (x_bv (f_X7_begin (x_r M v0 7) (x_r M v0 0) v1 (x_r M (x_r M v0 5) v2.toNatClampNeg) v3 M) (f_X8_run_c99 v0 v4 v5)) else none) else none) else none) else (if x_tag M v0 = 8 + 10 then (x_bd (f_X8_refuse v0 v6 M) (fun r36 M35 => some (r36, M35))) else none)
set_option maxRecDepth 20000 in
set_option maxHeartbeats 4000000 in
theorem t_X8_run_71 (l : Launch) {v0 : Nat} {v1 : Int32} {v2 : Int32} {v3 : Int32} {v4 : Int32} {v5 : Int32} {v6 : Int32} {M : XM} {q : Int32 × XM} (H : f_X8_run_71 v0 v1 v2 v3 v4 v5 v6 M = some q) : AW l m_X8_run 5 0 0 (x_Ri q) 0 0 71 [some (.ref v0), some (.int v1), some (.int v2), some (.int v3), some (.int v4), some (.int v5), some (.int v6), none] [] M := by
  unfold f_X8_run_71 at H
  refine x_iload 71 6 dX8_run_71 rfl ?_
  refine x_if_eq 73 83 dX8_run_73 (by decide) (fun c10 => ?_) (fun c10 => ?_)
  · replace H := x_ifp c10 H
    refine x_aload_n 83 0 dX8_run_83 rfl rfl ?_
    obtain ⟨h11, H⟩ := x_ckp H
    refine x_getf 84 43 8 7 (.ref (x_r M v0 7)) dX8_run_84 lk_367 (by decide) (by decide) rfl (fun _ => rfl) h11 ?_
    refine x_aload_n 87 0 dX8_run_87 rfl rfl ?_
    refine x_getf 88 10 8 0 (.ref (x_r M v0 0)) dX8_run_88 lk_360 (by decide) (by decide) rfl (fun _ => rfl) h11 ?_
    refine x_iload_n 91 1 dX8_run_91 rfl rfl ?_
    refine x_aload_n 92 0 dX8_run_92 rfl rfl ?_
    refine x_getf 93 32 8 5 (.ref (x_r M v0 5)) dX8_run_93 lk_365 (by decide) (by decide) rfl (fun _ => rfl) h11 ?_
    refine x_iload_n 96 2 dX8_run_96 rfl rfl ?_
    obtain ⟨h12, H⟩ := x_ckp H
    refine x_aald4 97 dX8_run_97 h12 ?_
    refine x_iload_n 98 3 dX8_run_98 rfl rfl ?_
    obtain ⟨h13, H⟩ := x_ckp H
    obtain ⟨M14, e16, H⟩ := x_bv_of H
    refine x_callV 99 220 7 [(.ref (x_r M v0 0)), (.int v1), (.ref (x_r M (x_r M v0 5) v2.toNatClampNeg)), (.int v3)] [] dX8_run_99 (ct_X7_begin l e16) lk_747 lk_748 lk_749 (by decide) h13 lk_89 lk_750 ⟨cn_X7_begin, (by decide), by decide⟩ rfl (Nat.le_of_ble_eq_true rfl) (Nat.le_of_ble_eq_true rfl) (Nat.le_of_ble_eq_true rfl) (x_rv ?_)
    exact x_wk (le_s (le_n (le_n (le_n (le_s (le_s (le_n (le_s le_0)))))))) (t_X8_run_c99 l H)
  · replace H := x_ifn c10 H
    refine x_aload_n 76 0 dX8_run_76 rfl rfl ?_
    refine x_iload 77 6 dX8_run_77 rfl ?_
    obtain ⟨h34, H⟩ := x_ckp H
    obtain ⟨r36, M35, e37, H⟩ := x_bd_of H
    refine x_callV 79 86 8 [(.int v6)] [] dX8_run_79 (ct_X8_refuse l e37) lk_410 lk_412 lk_0 (by decide) h34 lk_85 lk_413 ⟨cn_X8_refuse, (by decide), by decide⟩ rfl (Nat.le_of_ble_eq_true rfl) (Nat.le_of_ble_eq_true rfl) (Nat.le_of_ble_eq_true rfl) (x_ri ?_)
    cases H
    exact x_iret 82 dX8_run_82 .int rfl rfl (Nat.le_of_ble_eq_true rfl) (Nat.le_of_ble_eq_true rfl) ⟨rfl, rfl⟩

def f_X8_run_67 (v0 : Nat) (v1 : Int32) (v2 : Int32) (v3 : Int32) (v4 : Int32) (v5 : Int32) (M : XM) : Option (Int32 × XM) :=
  f_X8_run_71 v0 v1 v2 v3 v4 v5 (-6 : Int32) M
set_option maxRecDepth 20000 in
set_option maxHeartbeats 4000000 in
theorem t_X8_run_67 (l : Launch) {v0 : Nat} {v1 : Int32} {v2 : Int32} {v3 : Int32} {v4 : Int32} {v5 : Int32} {M : XM} {q : Int32 × XM} (H : f_X8_run_67 v0 v1 v2 v3 v4 v5 M = some q) : AW l m_X8_run 5 0 0 (x_Ri q) 0 0 67 [some (.ref v0), some (.int v1), some (.int v2), some (.int v3), some (.int v4), some (.int v5), none, none] [] M := by
  unfold f_X8_run_67 at H
  refine x_bipush 67 (-6 : Int32) dX8_run_67 (by decide) ?_
  refine x_istore 69 6 [some (.ref v0), some (.int v1), some (.int v2), some (.int v3), some (.int v4), some (.int v5), some (.int (-6 : Int32)), none] dX8_run_69 rfl (Nat.le_of_ble_eq_true rfl) rfl ?_
  exact t_X8_run_71 l H

def f_X8_run_c61 (v0 : Nat) (v1 : Int32) (v2 : Int32) (v3 : Int32) (v4 : Int32) (v5 : Int32) (v6 : Int32) (s0 : Int32) (M : XM) : Option (Int32 × XM) :=
  if s0 = 0 then (f_X8_run_67 v0 v1 v2 v3 v4 v5 M) else (f_X8_run_71 v0 v1 v2 v3 v4 v5 v6 M)
set_option maxRecDepth 20000 in
set_option maxHeartbeats 4000000 in
theorem t_X8_run_c61 (l : Launch) {v0 : Nat} {v1 : Int32} {v2 : Int32} {v3 : Int32} {v4 : Int32} {v5 : Int32} {v6 : Int32} {s0 : Int32} {M : XM} {q : Int32 × XM} (H : f_X8_run_c61 v0 v1 v2 v3 v4 v5 v6 s0 M = some q) : AW l m_X8_run 5 0 0 (x_Ri q) 0 0 64 [some (.ref v0), some (.int v1), some (.int v2), some (.int v3), some (.int v4), some (.int v5), some (.int v6), none] [(.int s0)] M := by
  unfold f_X8_run_c61 at H
  refine x_if_ne 64 71 dX8_run_64 (by decide) (fun c43 => ?_) (fun c43 => ?_)
  · replace H := x_ifn c43 H
    exact t_X8_run_71 l H
  · replace H := x_ifp c43 H
    exact x_wk (le_s (le_s (le_s (le_s (le_s (le_s (le_n (le_s le_0)))))))) (t_X8_run_67 l H)

def f_X8_run_40 (v0 : Nat) (v1 : Int32) (v2 : Int32) (v3 : Int32) (v4 : Int32) (v5 : Int32) (v6 : Int32) (M : XM) : Option (Int32 × XM) :=
  if v6 = 0 then (if v4 < 0 then (f_X8_run_67 v0 v1 v2 v3 v4 v5 M) else (if (400 : Int32) < v4 then (f_X8_run_67 v0 v1 v2 v3 v4 v5 M) else (if x_tag M v0 = 8 + 10 then (x_bd (f_X8_areSeconds v0 v2 v3 M) (f_X8_run_c61 v0 v1 v2 v3 v4 v5 v6)) else none))) else (f_X8_run_71 v0 v1 v2 v3 v4 v5 v6 M)
set_option maxRecDepth 20000 in
set_option maxHeartbeats 4000000 in
theorem t_X8_run_40 (l : Launch) {v0 : Nat} {v1 : Int32} {v2 : Int32} {v3 : Int32} {v4 : Int32} {v5 : Int32} {v6 : Int32} {M : XM} {q : Int32 × XM} (H : f_X8_run_40 v0 v1 v2 v3 v4 v5 v6 M = some q) : AW l m_X8_run 5 0 0 (x_Ri q) 0 0 40 [some (.ref v0), some (.int v1), some (.int v2), some (.int v3), some (.int v4), some (.int v5), some (.int v6), none] [] M := by
  unfold f_X8_run_40 at H
  refine x_iload 40 6 dX8_run_40 rfl ?_
  refine x_if_ne 42 71 dX8_run_42 (by decide) (fun c8 => ?_) (fun c8 => ?_)
  · replace H := x_ifn c8 H
    exact t_X8_run_71 l H
  · replace H := x_ifp c8 H
    refine x_iload 45 4 dX8_run_45 rfl ?_
    refine x_if_lt 47 67 dX8_run_47 (by decide) (fun c9 => ?_) (fun c9 => ?_)
    · replace H := x_ifp c9 H
      exact x_wk (le_s (le_s (le_s (le_s (le_s (le_s (le_n (le_s le_0)))))))) (t_X8_run_67 l H)
    · replace H := x_ifn c9 H
      refine x_iload 50 4 dX8_run_50 rfl ?_
      refine x_sipush 52 (400 : Int32) dX8_run_52 (by decide) ?_
      refine x_icmp_gt 55 67 dX8_run_55 (by decide) (fun c38 => ?_) (fun c38 => ?_)
      · replace H := x_ifp c38 H
        exact x_wk (le_s (le_s (le_s (le_s (le_s (le_s (le_n (le_s le_0)))))))) (t_X8_run_67 l H)
      · replace H := x_ifn c38 H
        refine x_aload_n 58 0 dX8_run_58 rfl rfl ?_
        refine x_iload_n 59 2 dX8_run_59 rfl rfl ?_
        refine x_iload_n 60 3 dX8_run_60 rfl rfl ?_
        obtain ⟨h39, H⟩ := x_ckp H
        obtain ⟨r41, M40, e42, H⟩ := x_bd_of H
        refine x_callV 61 217 8 [(.int v2), (.int v3)] [] dX8_run_61 (ct_X8_areSeconds l e42) lk_742 lk_744 lk_16 (by decide) h39 lk_85 lk_745 ⟨cn_X8_areSeconds, (by decide), by decide⟩ rfl (Nat.le_of_ble_eq_true rfl) (Nat.le_of_ble_eq_true rfl) (Nat.le_of_ble_eq_true rfl) (x_ri ?_)
        exact t_X8_run_c61 l H

def f_X8_run_36 (v0 : Nat) (v1 : Int32) (v2 : Int32) (v3 : Int32) (v4 : Int32) (v5 : Int32) (M : XM) : Option (Int32 × XM) :=
  f_X8_run_40 v0 v1 v2 v3 v4 v5 (-5 : Int32) M
set_option maxRecDepth 20000 in
set_option maxHeartbeats 4000000 in
theorem t_X8_run_36 (l : Launch) {v0 : Nat} {v1 : Int32} {v2 : Int32} {v3 : Int32} {v4 : Int32} {v5 : Int32} {M : XM} {q : Int32 × XM} (H : f_X8_run_36 v0 v1 v2 v3 v4 v5 M = some q) : AW l m_X8_run 5 0 0 (x_Ri q) 0 0 36 [some (.ref v0), some (.int v1), some (.int v2), some (.int v3), some (.int v4), some (.int v5), none, none] [] M := by
  unfold f_X8_run_36 at H
  refine x_bipush 36 (-5 : Int32) dX8_run_36 (by decide) ?_
  refine x_istore 38 6 [some (.ref v0), some (.int v1), some (.int v2), some (.int v3), some (.int v4), some (.int v5), some (.int (-5 : Int32)), none] dX8_run_38 rfl (Nat.le_of_ble_eq_true rfl) rfl ?_
  exact t_X8_run_40 l H

def f_X8_run_18 (v0 : Nat) (v1 : Int32) (v2 : Int32) (v3 : Int32) (v4 : Int32) (v5 : Int32) (s0 : Int32) (M : XM) : Option (Int32 × XM) :=
  if s0 = 0 then (if v5 < 0 then (f_X8_run_36 v0 v1 v2 v3 v4 v5 M) else (if v5 ≤ (2 : Int32) then (f_X8_run_40 v0 v1 v2 v3 v4 v5 s0 M) else (f_X8_run_36 v0 v1 v2 v3 v4 v5 M))) else (f_X8_run_40 v0 v1 v2 v3 v4 v5 s0 M)
set_option maxRecDepth 20000 in
set_option maxHeartbeats 4000000 in
theorem t_X8_run_18 (l : Launch) {v0 : Nat} {v1 : Int32} {v2 : Int32} {v3 : Int32} {v4 : Int32} {v5 : Int32} {s0 : Int32} {M : XM} {q : Int32 × XM} (H : f_X8_run_18 v0 v1 v2 v3 v4 v5 s0 M = some q) : AW l m_X8_run 5 0 0 (x_Ri q) 0 0 18 [some (.ref v0), some (.int v1), some (.int v2), some (.int v3), some (.int v4), some (.int v5), none, none] [(.int s0)] M := by
  unfold f_X8_run_18 at H
  refine x_istore 18 6 [some (.ref v0), some (.int v1), some (.int v2), some (.int v3), some (.int v4), some (.int v5), some (.int s0), none] dX8_run_18 rfl (Nat.le_of_ble_eq_true rfl) rfl ?_
  refine x_iload 20 6 dX8_run_20 rfl ?_
  refine x_if_ne 22 40 dX8_run_22 (by decide) (fun c6 => ?_) (fun c6 => ?_)
  · replace H := x_ifn c6 H
    exact t_X8_run_40 l H
  · replace H := x_ifp c6 H
    refine x_iload 25 5 dX8_run_25 rfl ?_
    refine x_if_lt 27 36 dX8_run_27 (by decide) (fun c7 => ?_) (fun c7 => ?_)
    · replace H := x_ifp c7 H
      exact x_wk (le_s (le_s (le_s (le_s (le_s (le_s (le_n (le_s le_0)))))))) (t_X8_run_36 l H)
    · replace H := x_ifn c7 H
      refine x_iload 30 5 dX8_run_30 rfl ?_
      refine x_iconst 32 (2 : Int32) dX8_run_32 (by decide) ?_
      refine x_icmp_le 33 40 dX8_run_33 (by decide) (fun c44 => ?_) (fun c44 => ?_)
      · replace H := x_ifp c44 H
        exact t_X8_run_40 l H
      · replace H := x_ifn c44 H
        exact x_wk (le_s (le_s (le_s (le_s (le_s (le_s (le_n (le_s le_0)))))))) (t_X8_run_36 l H)

def f_X8_run_c11 (v0 : Nat) (v1 : Int32) (v2 : Int32) (v3 : Int32) (v4 : Int32) (v5 : Int32) (s0 : Int32) (M : XM) : Option (Int32 × XM) :=
  f_X8_run_18 v0 v1 v2 v3 v4 v5 s0 M
set_option maxRecDepth 20000 in
set_option maxHeartbeats 4000000 in
theorem t_X8_run_c11 (l : Launch) {v0 : Nat} {v1 : Int32} {v2 : Int32} {v3 : Int32} {v4 : Int32} {v5 : Int32} {s0 : Int32} {M : XM} {q : Int32 × XM} (H : f_X8_run_c11 v0 v1 v2 v3 v4 v5 s0 M = some q) : AW l m_X8_run 5 0 0 (x_Ri q) 0 0 14 [some (.ref v0), some (.int v1), some (.int v2), some (.int v3), some (.int v4), some (.int v5), none, none] [(.int s0)] M := by
  unfold f_X8_run_c11 at H
  refine x_goto 14 18 dX8_run_14 (by decide) ?_
  exact t_X8_run_18 l H

def f_X8_run_c2 (v0 : Nat) (v1 : Int32) (v2 : Int32) (v3 : Int32) (v4 : Int32) (v5 : Int32) (s0 : Int32) (M : XM) : Option (Int32 × XM) :=
  if s0 = 0 then (f_X8_run_18 v0 v1 v2 v3 v4 v5 (-1 : Int32) M) else (if x_tag M v0 = 8 + 10 then (x_bd (f_X8_partRefusal v0 v2 v3 M) (f_X8_run_c11 v0 v1 v2 v3 v4 v5)) else none)
set_option maxRecDepth 20000 in
set_option maxHeartbeats 4000000 in
theorem t_X8_run_c2 (l : Launch) {v0 : Nat} {v1 : Int32} {v2 : Int32} {v3 : Int32} {v4 : Int32} {v5 : Int32} {s0 : Int32} {M : XM} {q : Int32 × XM} (H : f_X8_run_c2 v0 v1 v2 v3 v4 v5 s0 M = some q) : AW l m_X8_run 5 0 0 (x_Ri q) 0 0 5 [some (.ref v0), some (.int v1), some (.int v2), some (.int v3), some (.int v4), some (.int v5), none, none] [(.int s0)] M := by
  unfold f_X8_run_c2 at H
  refine x_if_eq 5 17 dX8_run_5 (by decide) (fun c5 => ?_) (fun c5 => ?_)
  · replace H := x_ifp c5 H
    refine x_iconst 17 (-1 : Int32) dX8_run_17 (by decide) ?_
    exact t_X8_run_18 l H
  · replace H := x_ifn c5 H
    refine x_aload_n 8 0 dX8_run_8 rfl rfl ?_
    refine x_iload_n 9 2 dX8_run_9 rfl rfl ?_
    refine x_iload_n 10 3 dX8_run_10 rfl rfl ?_
    obtain ⟨h45, H⟩ := x_ckp H
    obtain ⟨r47, M46, e48, H⟩ := x_bd_of H
    refine x_callV 11 214 8 [(.int v2), (.int v3)] [] dX8_run_11 (ct_X8_partRefusal l e48) lk_738 lk_740 lk_15 (by decide) h45 lk_85 lk_741 ⟨cn_X8_partRefusal, (by decide), by decide⟩ rfl (Nat.le_of_ble_eq_true rfl) (Nat.le_of_ble_eq_true rfl) (Nat.le_of_ble_eq_true rfl) (x_ri ?_)
    exact t_X8_run_c11 l H

def f_X8_run (v0 : Nat) (v1 : Int32) (v2 : Int32) (v3 : Int32) (v4 : Int32) (v5 : Int32) (M : XM) : Option (Int32 × XM) :=
  if x_tag M v0 = 8 + 10 then (x_bd (f_X8_isCounter v0 v1 M) (f_X8_run_c2 v0 v1 v2 v3 v4 v5)) else none
set_option maxRecDepth 20000 in
set_option maxHeartbeats 4000000 in
theorem t_X8_run (l : Launch) {v0 : Nat} {v1 : Int32} {v2 : Int32} {v3 : Int32} {v4 : Int32} {v5 : Int32} {M : XM} {q : Int32 × XM} (H : f_X8_run v0 v1 v2 v3 v4 v5 M = some q) : AW l m_X8_run 5 0 0 (x_Ri q) 0 0 0 [some (.ref v0), some (.int v1), some (.int v2), some (.int v3), some (.int v4), some (.int v5), none, none] [] M := by
  unfold f_X8_run at H
  refine x_aload_n 0 0 dX8_run_0 rfl rfl ?_
  refine x_iload_n 1 1 dX8_run_1 rfl rfl ?_
  obtain ⟨h1, H⟩ := x_ckp H
  obtain ⟨r3, M2, e4, H⟩ := x_bd_of H
  refine x_callV 2 123 8 [(.int v1)] [] dX8_run_2 (ct_X8_isCounter l e4) lk_478 lk_480 lk_3 (by decide) h1 lk_85 lk_481 ⟨cn_X8_isCounter, (by decide), by decide⟩ rfl (Nat.le_of_ble_eq_true rfl) (Nat.le_of_ble_eq_true rfl) (Nat.le_of_ble_eq_true rfl) (x_ri ?_)
  exact t_X8_run_c2 l H

theorem ct_X8_run (l : Launch) {v0 : Nat} {v1 : Int32} {v2 : Int32} {v3 : Int32} {v4 : Int32} {v5 : Int32} {M : XM} {q : Int32 × XM} (H : f_X8_run v0 v1 v2 v3 v4 v5 M = some q) : Ct l m_X8_run 5 0 0 [(.ref v0), (.int v1), (.int v2), (.int v3), (.int v4), (.int v5)] M (x_Ri q) := x_met l m_X8_run 5 0 0 [(.ref v0), (.int v1), (.int v2), (.int v3), (.int v4), (.int v5)] M (x_Ri q) _ rfl rfl (Nat.le_of_ble_eq_true rfl) (t_X8_run l H)
theorem lk_770 : Cond.code yX7_untilThrough cX7_untilThrough 2 (some .int) ∈ x_TB := x_tb (k := 770) (by decide +kernel) rfl
theorem lk_767 : Cond.methodLink RX8 233 yX7_untilThrough ∈ x_TB := x_tb (k := 767) (by decide +kernel) rfl
theorem lk_769 : Cond.selects RX7 yX7_untilThrough yX7_untilThrough ∈ x_TB := x_tb (k := 769) (by decide +kernel) rfl
theorem lk_768 : Cond.instanceMethod yX7_untilThrough ∈ x_TB := x_tb (k := 768) (by decide +kernel) rfl
abbrev m_X8_secondsRefusal : XU := (yX8_secondsRefusal, cX8_secondsRefusal, 4, (some .int))
theorem cn_X8_secondsRefusal : m_X8_secondsRefusal.1.cls ≠ "java/lang/invoke/MethodHandle" ∧ m_X8_secondsRefusal.1.cls ≠ "java/lang/invoke/VarHandle" ∧ (parseMethodDescriptor m_X8_secondsRefusal.1.desc).map (fun q => q.parameters.length) = some 2 := by decide +kernel
def f_X8_secondsRefusal_c16 (s0 : Int32) (M : XM) : Option (Int32 × XM) :=
  if s0 = 0 then (some ((-6 : Int32), M)) else (some ((0 : Int32), M))
set_option maxRecDepth 20000 in
set_option maxHeartbeats 4000000 in
theorem t_X8_secondsRefusal_c16 (l : Launch) {s0 : Int32} {M : XM} {q : Int32 × XM} (H : f_X8_secondsRefusal_c16 s0 M = some q) : AW l m_X8_secondsRefusal 5 0 0 (x_Ri q) 0 0 19 [none, none, none, none] [(.int s0)] M := by
  unfold f_X8_secondsRefusal_c16 at H
  refine x_if_eq 19 26 dX8_secondsRefusal_19 (by decide) (fun c10 => ?_) (fun c10 => ?_)
  · replace H := x_ifp c10 H
    refine x_bipush 26 (-6 : Int32) dX8_secondsRefusal_26 (by decide) ?_
    cases H
    exact x_iret 28 dX8_secondsRefusal_28 .int rfl rfl (Nat.le_of_ble_eq_true rfl) (Nat.le_of_ble_eq_true rfl) ⟨rfl, rfl⟩
  · replace H := x_ifn c10 H
    refine x_iconst 22 (0 : Int32) dX8_secondsRefusal_22 (by decide) ?_
    refine x_goto 23 28 dX8_secondsRefusal_23 (by decide) ?_
    cases H
    exact x_iret 28 dX8_secondsRefusal_28 .int rfl rfl (Nat.le_of_ble_eq_true rfl) (Nat.le_of_ble_eq_true rfl) ⟨rfl, rfl⟩

def f_X8_secondsRefusal_c3 (v0 : Nat) (v1 : Int32) (v2 : Int32) (s0 : Int32) (M : XM) : Option (Int32 × XM) :=
  if s0 = 0 then (if x_tag M v0 = 8 + 10 then (x_bd (f_X8_areSeconds v0 v1 v2 M) f_X8_secondsRefusal_c16) else none) else (some (s0, M))
set_option maxRecDepth 20000 in
set_option maxHeartbeats 4000000 in
theorem t_X8_secondsRefusal_c3 (l : Launch) {v0 : Nat} {v1 : Int32} {v2 : Int32} {s0 : Int32} {M : XM} {q : Int32 × XM} (H : f_X8_secondsRefusal_c3 v0 v1 v2 s0 M = some q) : AW l m_X8_secondsRefusal 5 0 0 (x_Ri q) 0 0 6 [some (.ref v0), some (.int v1), some (.int v2), none] [(.int s0)] M := by
  unfold f_X8_secondsRefusal_c3 at H
  refine x_istore_n 6 3 [some (.ref v0), some (.int v1), some (.int v2), some (.int s0)] dX8_secondsRefusal_6 rfl rfl (Nat.le_of_ble_eq_true rfl) rfl ?_
  refine x_iload_n 7 3 dX8_secondsRefusal_7 rfl rfl ?_
  refine x_if_eq 8 13 dX8_secondsRefusal_8 (by decide) (fun c5 => ?_) (fun c5 => ?_)
  · replace H := x_ifp c5 H
    refine x_aload_n 13 0 dX8_secondsRefusal_13 rfl rfl ?_
    refine x_iload_n 14 1 dX8_secondsRefusal_14 rfl rfl ?_
    refine x_iload_n 15 2 dX8_secondsRefusal_15 rfl rfl ?_
    obtain ⟨h6, H⟩ := x_ckp H
    obtain ⟨r8, M7, e9, H⟩ := x_bd_of H
    refine x_callV 16 217 8 [(.int v1), (.int v2)] [] dX8_secondsRefusal_16 (ct_X8_areSeconds l e9) lk_742 lk_744 lk_16 (by decide) h6 lk_85 lk_745 ⟨cn_X8_areSeconds, (by decide), by decide⟩ rfl (Nat.le_of_ble_eq_true rfl) (Nat.le_of_ble_eq_true rfl) (Nat.le_of_ble_eq_true rfl) (x_ri ?_)
    exact x_wk (le_n (le_n (le_n (le_n le_0)))) (t_X8_secondsRefusal_c16 l H)
  · replace H := x_ifn c5 H
    refine x_iload_n 11 3 dX8_secondsRefusal_11 rfl rfl ?_
    cases H
    exact x_iret 12 dX8_secondsRefusal_12 .int rfl rfl (Nat.le_of_ble_eq_true rfl) (Nat.le_of_ble_eq_true rfl) ⟨rfl, rfl⟩

def f_X8_secondsRefusal (v0 : Nat) (v1 : Int32) (v2 : Int32) (M : XM) : Option (Int32 × XM) :=
  if x_tag M v0 = 8 + 10 then (x_bd (f_X8_partRefusal v0 v1 v2 M) (f_X8_secondsRefusal_c3 v0 v1 v2)) else none
set_option maxRecDepth 20000 in
set_option maxHeartbeats 4000000 in
theorem t_X8_secondsRefusal (l : Launch) {v0 : Nat} {v1 : Int32} {v2 : Int32} {M : XM} {q : Int32 × XM} (H : f_X8_secondsRefusal v0 v1 v2 M = some q) : AW l m_X8_secondsRefusal 5 0 0 (x_Ri q) 0 0 0 [some (.ref v0), some (.int v1), some (.int v2), none] [] M := by
  unfold f_X8_secondsRefusal at H
  refine x_aload_n 0 0 dX8_secondsRefusal_0 rfl rfl ?_
  refine x_iload_n 1 1 dX8_secondsRefusal_1 rfl rfl ?_
  refine x_iload_n 2 2 dX8_secondsRefusal_2 rfl rfl ?_
  obtain ⟨h1, H⟩ := x_ckp H
  obtain ⟨r3, M2, e4, H⟩ := x_bd_of H
  refine x_callV 3 214 8 [(.int v1), (.int v2)] [] dX8_secondsRefusal_3 (ct_X8_partRefusal l e4) lk_738 lk_740 lk_15 (by decide) h1 lk_85 lk_741 ⟨cn_X8_partRefusal, (by decide), by decide⟩ rfl (Nat.le_of_ble_eq_true rfl) (Nat.le_of_ble_eq_true rfl) (Nat.le_of_ble_eq_true rfl) (x_ri ?_)
  exact t_X8_secondsRefusal_c3 l H

theorem ct_X8_secondsRefusal (l : Launch) {v0 : Nat} {v1 : Int32} {v2 : Int32} {M : XM} {q : Int32 × XM} (H : f_X8_secondsRefusal v0 v1 v2 M = some q) : Ct l m_X8_secondsRefusal 5 0 0 [(.ref v0), (.int v1), (.int v2)] M (x_Ri q) := x_met l m_X8_secondsRefusal 5 0 0 [(.ref v0), (.int v1), (.int v2)] M (x_Ri q) _ rfl rfl (Nat.le_of_ble_eq_true rfl) (t_X8_secondsRefusal l H)
theorem lk_766 : Cond.code yX8_secondsRefusal cX8_secondsRefusal 4 (some .int) ∈ x_TB := x_tb (k := 766) (by decide +kernel) rfl
theorem lk_763 : Cond.methodLink RX8 230 yX8_secondsRefusal ∈ x_TB := x_tb (k := 763) (by decide +kernel) rfl
theorem lk_17 : Cond.selects RX8 yX8_secondsRefusal yX8_secondsRefusal ∈ x_TB := x_tb (k := 17) (by decide +kernel) rfl
theorem lk_765 : Cond.instanceMethod yX8_secondsRefusal ∈ x_TB := x_tb (k := 765) (by decide +kernel) rfl
abbrev m_X8_through : XU := (yX8_through, cX8_through, 5, (some .int))
theorem cn_X8_through : m_X8_through.1.cls ≠ "java/lang/invoke/MethodHandle" ∧ m_X8_through.1.cls ≠ "java/lang/invoke/VarHandle" ∧ (parseMethodDescriptor m_X8_through.1.desc).map (fun q => q.parameters.length) = some 3 := by decide +kernel
def f_X8_through_c51 (v0 : Nat) (M : XM) : Option (Int32 × XM) :=
  if x_tag M v0 = 8 + 10 then (if x_tag M (x_r M v0 7) = 7 + 10 then (x_bd (f_X7_untilThrough (x_r M v0 7) M) (fun r16 M15 => some (r16, M15))) else none) else none
set_option maxRecDepth 20000 in
set_option maxHeartbeats 4000000 in
theorem t_X8_through_c51 (l : Launch) {v0 : Nat} {M : XM} {q : Int32 × XM} (H : f_X8_through_c51 v0 M = some q) : AW l m_X8_through 6 0 0 (x_Ri q) 0 0 54 [some (.ref v0), none, none, none, none] [] M := by
  unfold f_X8_through_c51 at H
  refine x_aload_n 54 0 dX8_through_54 rfl rfl ?_
  obtain ⟨h13, H⟩ := x_ckp H
  refine x_getf 55 43 8 7 (.ref (x_r M v0 7)) dX8_through_55 lk_367 (by decide) (by decide) rfl (fun _ => rfl) h13 ?_
  obtain ⟨h14, H⟩ := x_ckp H
  obtain ⟨r16, M15, e17, H⟩ := x_bd_of H
  refine x_callV 58 233 7 [] [] dX8_through_58 (ct_X7_untilThrough l e17) lk_767 lk_768 lk_769 (by decide) h14 lk_89 lk_770 ⟨cn_X7_untilThrough, (by decide), by decide⟩ rfl (Nat.le_of_ble_eq_true rfl) (Nat.le_of_ble_eq_true rfl) (Nat.le_of_ble_eq_true rfl) (x_ri ?_)
  cases H
  exact x_iret 61 dX8_through_61 .int rfl rfl (Nat.le_of_ble_eq_true rfl) (Nat.le_of_ble_eq_true rfl) ⟨rfl, rfl⟩

def f_X8_through_c28 (s0 : Int32) (M : XM) : Option (Int32 × XM) :=
  some ((s0 - (10 : Int32)), M)
set_option maxRecDepth 20000 in
set_option maxHeartbeats 4000000 in
theorem t_X8_through_c28 (l : Launch) {s0 : Int32} {M : XM} {q : Int32 × XM} (H : f_X8_through_c28 s0 M = some q) : AW l m_X8_through 6 0 0 (x_Ri q) 0 0 31 [none, none, none, none, none] [(.int s0)] M := by
  unfold f_X8_through_c28 at H
  refine x_bipush 31 (10 : Int32) dX8_through_31 (by decide) ?_
  refine x_isub 33 dX8_through_33 ?_
  cases H
  exact x_iret 34 dX8_through_34 .int rfl rfl (Nat.le_of_ble_eq_true rfl) (Nat.le_of_ble_eq_true rfl) ⟨rfl, rfl⟩

def f_X8_through_18 (v0 : Nat) (v1 : Int32) (v2 : Int32) (v3 : Int32) (s0 : Int32) (M : XM) : Option (Int32 × XM) :=
  if s0 = 0 then (if x_tag M v0 = 8 + 10 then (if x_at M (x_r M v0 5) 4 v2 = true then (if x_tag M (x_r M v0 7) = 7 + 10 then (x_bv (f_X7_begin (x_r M v0 7) (x_r M v0 0) v1 (x_r M (x_r M v0 5) v2.toNatClampNeg) v3 M) (f_X8_through_c51 v0)) else none) else none) else none) else (if x_tag M v0 = 8 + 10 then (x_bd (f_X8_refuse v0 s0 M) f_X8_through_c28) else none)
set_option maxRecDepth 20000 in
set_option maxHeartbeats 4000000 in
theorem t_X8_through_18 (l : Launch) {v0 : Nat} {v1 : Int32} {v2 : Int32} {v3 : Int32} {s0 : Int32} {M : XM} {q : Int32 × XM} (H : f_X8_through_18 v0 v1 v2 v3 s0 M = some q) : AW l m_X8_through 6 0 0 (x_Ri q) 0 0 18 [some (.ref v0), some (.int v1), some (.int v2), some (.int v3), none] [(.int s0)] M := by
  unfold f_X8_through_18 at H
  refine x_istore 18 4 [some (.ref v0), some (.int v1), some (.int v2), some (.int v3), some (.int s0)] dX8_through_18 rfl (Nat.le_of_ble_eq_true rfl) rfl ?_
  refine x_iload 20 4 dX8_through_20 rfl ?_
  refine x_if_eq 22 35 dX8_through_22 (by decide) (fun c6 => ?_) (fun c6 => ?_)
  · replace H := x_ifp c6 H
    refine x_aload_n 35 0 dX8_through_35 rfl rfl ?_
    obtain ⟨h7, H⟩ := x_ckp H
    refine x_getf 36 43 8 7 (.ref (x_r M v0 7)) dX8_through_36 lk_367 (by decide) (by decide) rfl (fun _ => rfl) h7 ?_
    refine x_aload_n 39 0 dX8_through_39 rfl rfl ?_
    refine x_getf 40 10 8 0 (.ref (x_r M v0 0)) dX8_through_40 lk_360 (by decide) (by decide) rfl (fun _ => rfl) h7 ?_
    refine x_iload_n 43 1 dX8_through_43 rfl rfl ?_
    refine x_aload_n 44 0 dX8_through_44 rfl rfl ?_
    refine x_getf 45 32 8 5 (.ref (x_r M v0 5)) dX8_through_45 lk_365 (by decide) (by decide) rfl (fun _ => rfl) h7 ?_
    refine x_iload_n 48 2 dX8_through_48 rfl rfl ?_
    obtain ⟨h8, H⟩ := x_ckp H
    refine x_aald4 49 dX8_through_49 h8 ?_
    refine x_iload_n 50 3 dX8_through_50 rfl rfl ?_
    obtain ⟨h9, H⟩ := x_ckp H
    obtain ⟨M10, e12, H⟩ := x_bv_of H
    refine x_callV 51 220 7 [(.ref (x_r M v0 0)), (.int v1), (.ref (x_r M (x_r M v0 5) v2.toNatClampNeg)), (.int v3)] [] dX8_through_51 (ct_X7_begin l e12) lk_747 lk_748 lk_749 (by decide) h9 lk_89 lk_750 ⟨cn_X7_begin, (by decide), by decide⟩ rfl (Nat.le_of_ble_eq_true rfl) (Nat.le_of_ble_eq_true rfl) (Nat.le_of_ble_eq_true rfl) (x_rv ?_)
    exact x_wk (le_s (le_n (le_n (le_n (le_n le_0))))) (t_X8_through_c51 l H)
  · replace H := x_ifn c6 H
    refine x_aload_n 25 0 dX8_through_25 rfl rfl ?_
    refine x_iload 26 4 dX8_through_26 rfl ?_
    obtain ⟨h18, H⟩ := x_ckp H
    obtain ⟨r20, M19, e21, H⟩ := x_bd_of H
    refine x_callV 28 86 8 [(.int s0)] [] dX8_through_28 (ct_X8_refuse l e21) lk_410 lk_412 lk_0 (by decide) h18 lk_85 lk_413 ⟨cn_X8_refuse, (by decide), by decide⟩ rfl (Nat.le_of_ble_eq_true rfl) (Nat.le_of_ble_eq_true rfl) (Nat.le_of_ble_eq_true rfl) (x_ri ?_)
    exact x_wk (le_n (le_n (le_n (le_n (le_n le_0))))) (t_X8_through_c28 l H)

def f_X8_through_c11 (v0 : Nat) (v1 : Int32) (v2 : Int32) (v3 : Int32) (s0 : Int32) (M : XM) : Option (Int32 × XM) :=
  f_X8_through_18 v0 v1 v2 v3 s0 M
set_option maxRecDepth 20000 in
set_option maxHeartbeats 4000000 in
theorem t_X8_through_c11 (l : Launch) {v0 : Nat} {v1 : Int32} {v2 : Int32} {v3 : Int32} {s0 : Int32} {M : XM} {q : Int32 × XM} (H : f_X8_through_c11 v0 v1 v2 v3 s0 M = some q) : AW l m_X8_through 6 0 0 (x_Ri q) 0 0 14 [some (.ref v0), some (.int v1), some (.int v2), some (.int v3), none] [(.int s0)] M := by
  unfold f_X8_through_c11 at H
  refine x_goto 14 18 dX8_through_14 (by decide) ?_
  exact t_X8_through_18 l H

def f_X8_through_c2 (v0 : Nat) (v1 : Int32) (v2 : Int32) (v3 : Int32) (s0 : Int32) (M : XM) : Option (Int32 × XM) :=
  if s0 = 0 then (f_X8_through_18 v0 v1 v2 v3 (-1 : Int32) M) else (if x_tag M v0 = 8 + 10 then (x_bd (f_X8_secondsRefusal v0 v2 v3 M) (f_X8_through_c11 v0 v1 v2 v3)) else none)
set_option maxRecDepth 20000 in
set_option maxHeartbeats 4000000 in
theorem t_X8_through_c2 (l : Launch) {v0 : Nat} {v1 : Int32} {v2 : Int32} {v3 : Int32} {s0 : Int32} {M : XM} {q : Int32 × XM} (H : f_X8_through_c2 v0 v1 v2 v3 s0 M = some q) : AW l m_X8_through 6 0 0 (x_Ri q) 0 0 5 [some (.ref v0), some (.int v1), some (.int v2), some (.int v3), none] [(.int s0)] M := by
  unfold f_X8_through_c2 at H
  refine x_if_eq 5 17 dX8_through_5 (by decide) (fun c5 => ?_) (fun c5 => ?_)
  · replace H := x_ifp c5 H
    refine x_iconst 17 (-1 : Int32) dX8_through_17 (by decide) ?_
    exact t_X8_through_18 l H
  · replace H := x_ifn c5 H
    refine x_aload_n 8 0 dX8_through_8 rfl rfl ?_
    refine x_iload_n 9 2 dX8_through_9 rfl rfl ?_
    refine x_iload_n 10 3 dX8_through_10 rfl rfl ?_
    obtain ⟨h22, H⟩ := x_ckp H
    obtain ⟨r24, M23, e25, H⟩ := x_bd_of H
    refine x_callV 11 230 8 [(.int v2), (.int v3)] [] dX8_through_11 (ct_X8_secondsRefusal l e25) lk_763 lk_765 lk_17 (by decide) h22 lk_85 lk_766 ⟨cn_X8_secondsRefusal, (by decide), by decide⟩ rfl (Nat.le_of_ble_eq_true rfl) (Nat.le_of_ble_eq_true rfl) (Nat.le_of_ble_eq_true rfl) (x_ri ?_)
    exact t_X8_through_c11 l H

def f_X8_through (v0 : Nat) (v1 : Int32) (v2 : Int32) (v3 : Int32) (M : XM) : Option (Int32 × XM) :=
  if x_tag M v0 = 8 + 10 then (x_bd (f_X8_isCounter v0 v1 M) (f_X8_through_c2 v0 v1 v2 v3)) else none
set_option maxRecDepth 20000 in
set_option maxHeartbeats 4000000 in
theorem t_X8_through (l : Launch) {v0 : Nat} {v1 : Int32} {v2 : Int32} {v3 : Int32} {M : XM} {q : Int32 × XM} (H : f_X8_through v0 v1 v2 v3 M = some q) : AW l m_X8_through 6 0 0 (x_Ri q) 0 0 0 [some (.ref v0), some (.int v1), some (.int v2), some (.int v3), none] [] M := by
  unfold f_X8_through at H
  refine x_aload_n 0 0 dX8_through_0 rfl rfl ?_
  refine x_iload_n 1 1 dX8_through_1 rfl rfl ?_
  obtain ⟨h1, H⟩ := x_ckp H
  obtain ⟨r3, M2, e4, H⟩ := x_bd_of H
  refine x_callV 2 123 8 [(.int v1)] [] dX8_through_2 (ct_X8_isCounter l e4) lk_478 lk_480 lk_3 (by decide) h1 lk_85 lk_481 ⟨cn_X8_isCounter, (by decide), by decide⟩ rfl (Nat.le_of_ble_eq_true rfl) (Nat.le_of_ble_eq_true rfl) (Nat.le_of_ble_eq_true rfl) (x_ri ?_)
  exact t_X8_through_c2 l H

theorem ct_X8_through (l : Launch) {v0 : Nat} {v1 : Int32} {v2 : Int32} {v3 : Int32} {M : XM} {q : Int32 × XM} (H : f_X8_through v0 v1 v2 v3 M = some q) : Ct l m_X8_through 6 0 0 [(.ref v0), (.int v1), (.int v2), (.int v3)] M (x_Ri q) := x_met l m_X8_through 6 0 0 [(.ref v0), (.int v1), (.int v2), (.int v3)] M (x_Ri q) _ rfl rfl (Nat.le_of_ble_eq_true rfl) (t_X8_through l H)
theorem lk_779 : Cond.code yX1_behind cX1_behind 5 (some .int) ∈ x_TB := x_tb (k := 779) (by decide +kernel) rfl
theorem lk_776 : Cond.methodLink RX8 236 yX1_behind ∈ x_TB := x_tb (k := 776) (by decide +kernel) rfl
theorem lk_778 : Cond.selects RX1 yX1_behind yX1_behind ∈ x_TB := x_tb (k := 778) (by decide +kernel) rfl
theorem lk_777 : Cond.instanceMethod yX1_behind ∈ x_TB := x_tb (k := 777) (by decide +kernel) rfl
abbrev m_X8_chance : XU := (yX8_chance, cX8_chance, 3, (some .int))
theorem cn_X8_chance : m_X8_chance.1.cls ≠ "java/lang/invoke/MethodHandle" ∧ m_X8_chance.1.cls ≠ "java/lang/invoke/VarHandle" ∧ (parseMethodDescriptor m_X8_chance.1.desc).map (fun q => q.parameters.length) = some 2 := by decide +kernel
def f_X8_chance_25 (v0 : Nat) (M : XM) : Option (Int32 × XM) :=
  if x_tag M v0 = 8 + 10 then (x_bd (f_X8_refuse v0 (-6 : Int32) M) (fun r13 M12 => some (r13, M12))) else none
set_option maxRecDepth 20000 in
set_option maxHeartbeats 4000000 in
theorem t_X8_chance_25 (l : Launch) {v0 : Nat} {M : XM} {q : Int32 × XM} (H : f_X8_chance_25 v0 M = some q) : AW l m_X8_chance 7 0 0 (x_Ri q) 0 0 25 [some (.ref v0), none, none] [] M := by
  unfold f_X8_chance_25 at H
  refine x_aload_n 25 0 dX8_chance_25 rfl rfl ?_
  refine x_bipush 26 (-6 : Int32) dX8_chance_26 (by decide) ?_
  obtain ⟨h11, H⟩ := x_ckp H
  obtain ⟨r13, M12, e14, H⟩ := x_bd_of H
  refine x_callV 28 86 8 [(.int (-6 : Int32))] [] dX8_chance_28 (ct_X8_refuse l e14) lk_410 lk_412 lk_0 (by decide) h11 lk_85 lk_413 ⟨cn_X8_refuse, (by decide), by decide⟩ rfl (Nat.le_of_ble_eq_true rfl) (Nat.le_of_ble_eq_true rfl) (Nat.le_of_ble_eq_true rfl) (x_ri ?_)
  cases H
  exact x_iret 31 dX8_chance_31 .int rfl rfl (Nat.le_of_ble_eq_true rfl) (Nat.le_of_ble_eq_true rfl) ⟨rfl, rfl⟩

def f_X8_chance_c2 (v0 : Nat) (v1 : Int32) (v2 : Int32) (s0 : Int32) (M : XM) : Option (Int32 × XM) :=
  if s0 = 0 then (if x_tag M v0 = 8 + 10 then (x_bd (f_X8_refuse v0 (-1 : Int32) M) (fun r8 M7 => some (r8, M7))) else none) else (if v2 < 0 then (f_X8_chance_25 v0 M) else (if v2 ≤ (400 : Int32) then (if x_tag M v0 = 8 + 10 then (if x_tag M (x_r M v0 8) = 1 + 10 then (x_bd (f_X1_behind (x_r M v0 8) (x_r M v0 0) v1 v2 M) (fun r19 M18 => some (r19, M18))) else none) else none) else (f_X8_chance_25 v0 M)))
set_option maxRecDepth 20000 in
set_option maxHeartbeats 4000000 in
theorem t_X8_chance_c2 (l : Launch) {v0 : Nat} {v1 : Int32} {v2 : Int32} {s0 : Int32} {M : XM} {q : Int32 × XM} (H : f_X8_chance_c2 v0 v1 v2 s0 M = some q) : AW l m_X8_chance 7 0 0 (x_Ri q) 0 0 5 [some (.ref v0), some (.int v1), some (.int v2)] [(.int s0)] M := by
  unfold f_X8_chance_c2 at H
  refine x_if_ne 5 14 dX8_chance_5 (by decide) (fun c5 => ?_) (fun c5 => ?_)
  · replace H := x_ifn c5 H
    refine x_iload_n 14 2 dX8_chance_14 rfl rfl ?_
    refine x_if_lt 15 25 dX8_chance_15 (by decide) (fun c10 => ?_) (fun c10 => ?_)
    · replace H := x_ifp c10 H
      exact x_wk (le_s (le_n (le_n le_0))) (t_X8_chance_25 l H)
    · replace H := x_ifn c10 H
      refine x_iload_n 18 2 dX8_chance_18 rfl rfl ?_
      refine x_sipush 19 (400 : Int32) dX8_chance_19 (by decide) ?_
      refine x_icmp_le 22 32 dX8_chance_22 (by decide) (fun c15 => ?_) (fun c15 => ?_)
      · replace H := x_ifp c15 H
        refine x_aload_n 32 0 dX8_chance_32 rfl rfl ?_
        obtain ⟨h16, H⟩ := x_ckp H
        refine x_getf 33 50 8 8 (.ref (x_r M v0 8)) dX8_chance_33 lk_368 (by decide) (by decide) rfl (fun _ => rfl) h16 ?_
        refine x_aload_n 36 0 dX8_chance_36 rfl rfl ?_
        refine x_getf 37 10 8 0 (.ref (x_r M v0 0)) dX8_chance_37 lk_360 (by decide) (by decide) rfl (fun _ => rfl) h16 ?_
        refine x_iload_n 40 1 dX8_chance_40 rfl rfl ?_
        refine x_iload_n 41 2 dX8_chance_41 rfl rfl ?_
        obtain ⟨h17, H⟩ := x_ckp H
        obtain ⟨r19, M18, e20, H⟩ := x_bd_of H
        refine x_callV 42 236 1 [(.ref (x_r M v0 0)), (.int v1), (.int v2)] [] dX8_chance_42 (ct_X1_behind l e20) lk_776 lk_777 lk_778 (by decide) h17 lk_90 lk_779 ⟨cn_X1_behind, (by decide), by decide⟩ rfl (Nat.le_of_ble_eq_true rfl) (Nat.le_of_ble_eq_true rfl) (Nat.le_of_ble_eq_true rfl) (x_ri ?_)
        cases H
        exact x_iret 45 dX8_chance_45 .int rfl rfl (Nat.le_of_ble_eq_true rfl) (Nat.le_of_ble_eq_true rfl) ⟨rfl, rfl⟩
      · replace H := x_ifn c15 H
        exact x_wk (le_s (le_n (le_n le_0))) (t_X8_chance_25 l H)
  · replace H := x_ifp c5 H
    refine x_aload_n 8 0 dX8_chance_8 rfl rfl ?_
    refine x_iconst 9 (-1 : Int32) dX8_chance_9 (by decide) ?_
    obtain ⟨h6, H⟩ := x_ckp H
    obtain ⟨r8, M7, e9, H⟩ := x_bd_of H
    refine x_callV 10 86 8 [(.int (-1 : Int32))] [] dX8_chance_10 (ct_X8_refuse l e9) lk_410 lk_412 lk_0 (by decide) h6 lk_85 lk_413 ⟨cn_X8_refuse, (by decide), by decide⟩ rfl (Nat.le_of_ble_eq_true rfl) (Nat.le_of_ble_eq_true rfl) (Nat.le_of_ble_eq_true rfl) (x_ri ?_)
    cases H
    exact x_iret 13 dX8_chance_13 .int rfl rfl (Nat.le_of_ble_eq_true rfl) (Nat.le_of_ble_eq_true rfl) ⟨rfl, rfl⟩

def f_X8_chance (v0 : Nat) (v1 : Int32) (v2 : Int32) (M : XM) : Option (Int32 × XM) :=
  if x_tag M v0 = 8 + 10 then (x_bd (f_X8_isCounter v0 v1 M) (f_X8_chance_c2 v0 v1 v2)) else none
set_option maxRecDepth 20000 in
set_option maxHeartbeats 4000000 in
theorem t_X8_chance (l : Launch) {v0 : Nat} {v1 : Int32} {v2 : Int32} {M : XM} {q : Int32 × XM} (H : f_X8_chance v0 v1 v2 M = some q) : AW l m_X8_chance 7 0 0 (x_Ri q) 0 0 0 [some (.ref v0), some (.int v1), some (.int v2)] [] M := by
  unfold f_X8_chance at H
  refine x_aload_n 0 0 dX8_chance_0 rfl rfl ?_
  refine x_iload_n 1 1 dX8_chance_1 rfl rfl ?_
  obtain ⟨h1, H⟩ := x_ckp H
  obtain ⟨r3, M2, e4, H⟩ := x_bd_of H
  refine x_callV 2 123 8 [(.int v1)] [] dX8_chance_2 (ct_X8_isCounter l e4) lk_478 lk_480 lk_3 (by decide) h1 lk_85 lk_481 ⟨cn_X8_isCounter, (by decide), by decide⟩ rfl (Nat.le_of_ble_eq_true rfl) (Nat.le_of_ble_eq_true rfl) (Nat.le_of_ble_eq_true rfl) (x_ri ?_)
  exact t_X8_chance_c2 l H

theorem ct_X8_chance (l : Launch) {v0 : Nat} {v1 : Int32} {v2 : Int32} {M : XM} {q : Int32 × XM} (H : f_X8_chance v0 v1 v2 M = some q) : Ct l m_X8_chance 7 0 0 [(.ref v0), (.int v1), (.int v2)] M (x_Ri q) := x_met l m_X8_chance 7 0 0 [(.ref v0), (.int v1), (.int v2)] M (x_Ri q) _ rfl rfl (Nat.le_of_ble_eq_true rfl) (t_X8_chance l H)
theorem lk_817 : Cond.constant RX8 346 (1000000 : Int32) ∈ x_TB := x_tb (k := 817) (by decide +kernel) rfl
abbrev m_X8_chanceRefusal : XU := (yX8_chanceRefusal, cX8_chanceRefusal, 3, (some .int))
theorem cn_X8_chanceRefusal : m_X8_chanceRefusal.1.cls ≠ "java/lang/invoke/MethodHandle" ∧ m_X8_chanceRefusal.1.cls ≠ "java/lang/invoke/VarHandle" ∧ (parseMethodDescriptor m_X8_chanceRefusal.1.desc).map (fun q => q.parameters.length) = some 2 := by decide +kernel
def f_X8_chanceRefusal_c2 (v2 : Int32) (s0 : Int32) (M : XM) : Option (Int32 × XM) :=
  if s0 = 0 then (some ((-1 : Int32), M)) else (if v2 < (1 : Int32) then (some ((-6 : Int32), M)) else (if v2 ≤ (1000000 : Int32) then (some ((0 : Int32), M)) else (some ((-6 : Int32), M))))
set_option maxRecDepth 20000 in
set_option maxHeartbeats 4000000 in
theorem t_X8_chanceRefusal_c2 (l : Launch) {v2 : Int32} {s0 : Int32} {M : XM} {q : Int32 × XM} (H : f_X8_chanceRefusal_c2 v2 s0 M = some q) : AW l m_X8_chanceRefusal 2 0 0 (x_Ri q) 0 0 5 [none, none, some (.int v2)] [(.int s0)] M := by
  unfold f_X8_chanceRefusal_c2 at H
  refine x_if_ne 5 10 dX8_chanceRefusal_5 (by decide) (fun c5 => ?_) (fun c5 => ?_)
  · replace H := x_ifn c5 H
    refine x_iload_n 10 2 dX8_chanceRefusal_10 rfl rfl ?_
    refine x_iconst 11 (1 : Int32) dX8_chanceRefusal_11 (by decide) ?_
    refine x_icmp_lt 12 22 dX8_chanceRefusal_12 (by decide) (fun c6 => ?_) (fun c6 => ?_)
    · replace H := x_ifp c6 H
      refine x_bipush 22 (-6 : Int32) dX8_chanceRefusal_22 (by decide) ?_
      refine x_goto 24 28 dX8_chanceRefusal_24 (by decide) ?_
      cases H
      exact x_iret 28 dX8_chanceRefusal_28 .int rfl rfl (Nat.le_of_ble_eq_true rfl) (Nat.le_of_ble_eq_true rfl) ⟨rfl, rfl⟩
    · replace H := x_ifn c6 H
      refine x_iload_n 15 2 dX8_chanceRefusal_15 rfl rfl ?_
      refine x_ldcw 16 (1000000 : Int32) dX8_chanceRefusal_16 lk_817 ?_
      refine x_icmp_le 19 27 dX8_chanceRefusal_19 (by decide) (fun c7 => ?_) (fun c7 => ?_)
      · replace H := x_ifp c7 H
        refine x_iconst 27 (0 : Int32) dX8_chanceRefusal_27 (by decide) ?_
        cases H
        exact x_iret 28 dX8_chanceRefusal_28 .int rfl rfl (Nat.le_of_ble_eq_true rfl) (Nat.le_of_ble_eq_true rfl) ⟨rfl, rfl⟩
      · replace H := x_ifn c7 H
        refine x_bipush 22 (-6 : Int32) dX8_chanceRefusal_22 (by decide) ?_
        refine x_goto 24 28 dX8_chanceRefusal_24 (by decide) ?_
        cases H
        exact x_iret 28 dX8_chanceRefusal_28 .int rfl rfl (Nat.le_of_ble_eq_true rfl) (Nat.le_of_ble_eq_true rfl) ⟨rfl, rfl⟩
  · replace H := x_ifp c5 H
    refine x_iconst 8 (-1 : Int32) dX8_chanceRefusal_8 (by decide) ?_
    cases H
    exact x_iret 9 dX8_chanceRefusal_9 .int rfl rfl (Nat.le_of_ble_eq_true rfl) (Nat.le_of_ble_eq_true rfl) ⟨rfl, rfl⟩

def f_X8_chanceRefusal (v0 : Nat) (v1 : Int32) (v2 : Int32) (M : XM) : Option (Int32 × XM) :=
  if x_tag M v0 = 8 + 10 then (x_bd (f_X8_isCounter v0 v1 M) (f_X8_chanceRefusal_c2 v2)) else none
set_option maxRecDepth 20000 in
set_option maxHeartbeats 4000000 in
theorem t_X8_chanceRefusal (l : Launch) {v0 : Nat} {v1 : Int32} {v2 : Int32} {M : XM} {q : Int32 × XM} (H : f_X8_chanceRefusal v0 v1 v2 M = some q) : AW l m_X8_chanceRefusal 2 0 0 (x_Ri q) 0 0 0 [some (.ref v0), some (.int v1), some (.int v2)] [] M := by
  unfold f_X8_chanceRefusal at H
  refine x_aload_n 0 0 dX8_chanceRefusal_0 rfl rfl ?_
  refine x_iload_n 1 1 dX8_chanceRefusal_1 rfl rfl ?_
  obtain ⟨h1, H⟩ := x_ckp H
  obtain ⟨r3, M2, e4, H⟩ := x_bd_of H
  refine x_callV 2 123 8 [(.int v1)] [] dX8_chanceRefusal_2 (ct_X8_isCounter l e4) lk_478 lk_480 lk_3 (by decide) h1 lk_85 lk_481 ⟨cn_X8_isCounter, (by decide), by decide⟩ rfl (Nat.le_of_ble_eq_true rfl) (Nat.le_of_ble_eq_true rfl) (Nat.le_of_ble_eq_true rfl) (x_ri ?_)
  exact x_wk (le_n (le_n (le_s le_0))) (t_X8_chanceRefusal_c2 l H)

theorem ct_X8_chanceRefusal (l : Launch) {v0 : Nat} {v1 : Int32} {v2 : Int32} {M : XM} {q : Int32 × XM} (H : f_X8_chanceRefusal v0 v1 v2 M = some q) : Ct l m_X8_chanceRefusal 2 0 0 [(.ref v0), (.int v1), (.int v2)] M (x_Ri q) := x_met l m_X8_chanceRefusal 2 0 0 [(.ref v0), (.int v1), (.int v2)] M (x_Ri q) _ rfl rfl (Nat.le_of_ble_eq_true rfl) (t_X8_chanceRefusal l H)
theorem lk_816 : Cond.code yX8_chanceRefusal cX8_chanceRefusal 3 (some .int) ∈ x_TB := x_tb (k := 816) (by decide +kernel) rfl
theorem lk_813 : Cond.methodLink RX8 240 yX8_chanceRefusal ∈ x_TB := x_tb (k := 813) (by decide +kernel) rfl
theorem lk_22 : Cond.selects RX8 yX8_chanceRefusal yX8_chanceRefusal ∈ x_TB := x_tb (k := 22) (by decide +kernel) rfl
theorem lk_815 : Cond.instanceMethod yX8_chanceRefusal ∈ x_TB := x_tb (k := 815) (by decide +kernel) rfl
theorem lk_821 : Cond.code yX1_untilAtLeast cX1_untilAtLeast 7 (some .int) ∈ x_TB := x_tb (k := 821) (by decide +kernel) rfl
theorem lk_818 : Cond.methodLink RX8 243 yX1_untilAtLeast ∈ x_TB := x_tb (k := 818) (by decide +kernel) rfl
theorem lk_820 : Cond.selects RX1 yX1_untilAtLeast yX1_untilAtLeast ∈ x_TB := x_tb (k := 820) (by decide +kernel) rfl
theorem lk_819 : Cond.instanceMethod yX1_untilAtLeast ∈ x_TB := x_tb (k := 819) (by decide +kernel) rfl
abbrev m_X8_median : XU := (yX8_median, cX8_median, 4, (some .int))
theorem cn_X8_median : m_X8_median.1.cls ≠ "java/lang/invoke/MethodHandle" ∧ m_X8_median.1.cls ≠ "java/lang/invoke/VarHandle" ∧ (parseMethodDescriptor m_X8_median.1.desc).map (fun q => q.parameters.length) = some 2 := by decide +kernel
def f_X8_median_c13 (s0 : Int32) (M : XM) : Option (Int32 × XM) :=
  some ((s0 - (10 : Int32)), M)
set_option maxRecDepth 20000 in
set_option maxHeartbeats 4000000 in
theorem t_X8_median_c13 (l : Launch) {s0 : Int32} {M : XM} {q : Int32 × XM} (H : f_X8_median_c13 s0 M = some q) : AW l m_X8_median 7 0 0 (x_Ri q) 0 0 16 [none, none, none, none] [(.int s0)] M := by
  unfold f_X8_median_c13 at H
  refine x_bipush 16 (10 : Int32) dX8_median_16 (by decide) ?_
  refine x_isub 18 dX8_median_18 ?_
  cases H
  exact x_iret 19 dX8_median_19 .int rfl rfl (Nat.le_of_ble_eq_true rfl) (Nat.le_of_ble_eq_true rfl) ⟨rfl, rfl⟩

def f_X8_median_c3 (v0 : Nat) (v1 : Int32) (v2 : Int32) (s0 : Int32) (M : XM) : Option (Int32 × XM) :=
  if s0 = 0 then (if x_tag M v0 = 8 + 10 then (if x_tag M (x_r M v0 0) = 4 + 10 then (if x_tag M (x_r M v0 8) = 1 + 10 then (x_bd (f_X1_untilAtLeast (x_r M v0 8) v2 (x_r M v0 0) v1 (x_i M (x_r M v0 0) 3) (400 : Int32) M) (fun r10 M9 => some (r10, M9))) else none) else none) else none) else (if x_tag M v0 = 8 + 10 then (x_bd (f_X8_refuse v0 s0 M) f_X8_median_c13) else none)
set_option maxRecDepth 20000 in
set_option maxHeartbeats 4000000 in
theorem t_X8_median_c3 (l : Launch) {v0 : Nat} {v1 : Int32} {v2 : Int32} {s0 : Int32} {M : XM} {q : Int32 × XM} (H : f_X8_median_c3 v0 v1 v2 s0 M = some q) : AW l m_X8_median 7 0 0 (x_Ri q) 0 0 6 [some (.ref v0), some (.int v1), some (.int v2), none] [(.int s0)] M := by
  unfold f_X8_median_c3 at H
  refine x_istore_n 6 3 [some (.ref v0), some (.int v1), some (.int v2), some (.int s0)] dX8_median_6 rfl rfl (Nat.le_of_ble_eq_true rfl) rfl ?_
  refine x_iload_n 7 3 dX8_median_7 rfl rfl ?_
  refine x_if_eq 8 20 dX8_median_8 (by decide) (fun c5 => ?_) (fun c5 => ?_)
  · replace H := x_ifp c5 H
    refine x_aload_n 20 0 dX8_median_20 rfl rfl ?_
    obtain ⟨h6, H⟩ := x_ckp H
    refine x_getf 21 50 8 8 (.ref (x_r M v0 8)) dX8_median_21 lk_368 (by decide) (by decide) rfl (fun _ => rfl) h6 ?_
    refine x_iload_n 24 2 dX8_median_24 rfl rfl ?_
    refine x_aload_n 25 0 dX8_median_25 rfl rfl ?_
    refine x_getf 26 10 8 0 (.ref (x_r M v0 0)) dX8_median_26 lk_360 (by decide) (by decide) rfl (fun _ => rfl) h6 ?_
    refine x_iload_n 29 1 dX8_median_29 rfl rfl ?_
    refine x_aload_n 30 0 dX8_median_30 rfl rfl ?_
    refine x_getf 31 10 8 0 (.ref (x_r M v0 0)) dX8_median_31 lk_360 (by decide) (by decide) rfl (fun _ => rfl) h6 ?_
    obtain ⟨h7, H⟩ := x_ckp H
    refine x_getf 34 154 4 3 (.int (x_i M (x_r M v0 0) 3)) dX8_median_34 lk_171 (by decide) (by decide) rfl (fun _ => rfl) h7 ?_
    refine x_sipush 37 (400 : Int32) dX8_median_37 (by decide) ?_
    obtain ⟨h8, H⟩ := x_ckp H
    obtain ⟨r10, M9, e11, H⟩ := x_bd_of H
    refine x_callV 40 243 1 [(.int v2), (.ref (x_r M v0 0)), (.int v1), (.int (x_i M (x_r M v0 0) 3)), (.int (400 : Int32))] [] dX8_median_40 (ct_X1_untilAtLeast l e11) lk_818 lk_819 lk_820 (by decide) h8 lk_90 lk_821 ⟨cn_X1_untilAtLeast, (by decide), by decide⟩ rfl (Nat.le_of_ble_eq_true rfl) (Nat.le_of_ble_eq_true rfl) (Nat.le_of_ble_eq_true rfl) (x_ri ?_)
    cases H
    exact x_iret 43 dX8_median_43 .int rfl rfl (Nat.le_of_ble_eq_true rfl) (Nat.le_of_ble_eq_true rfl) ⟨rfl, rfl⟩
  · replace H := x_ifn c5 H
    refine x_aload_n 11 0 dX8_median_11 rfl rfl ?_
    refine x_iload_n 12 3 dX8_median_12 rfl rfl ?_
    obtain ⟨h12, H⟩ := x_ckp H
    obtain ⟨r14, M13, e15, H⟩ := x_bd_of H
    refine x_callV 13 86 8 [(.int s0)] [] dX8_median_13 (ct_X8_refuse l e15) lk_410 lk_412 lk_0 (by decide) h12 lk_85 lk_413 ⟨cn_X8_refuse, (by decide), by decide⟩ rfl (Nat.le_of_ble_eq_true rfl) (Nat.le_of_ble_eq_true rfl) (Nat.le_of_ble_eq_true rfl) (x_ri ?_)
    exact x_wk (le_n (le_n (le_n (le_n le_0)))) (t_X8_median_c13 l H)

def f_X8_median (v0 : Nat) (v1 : Int32) (v2 : Int32) (M : XM) : Option (Int32 × XM) :=
  if x_tag M v0 = 8 + 10 then (x_bd (f_X8_chanceRefusal v0 v1 v2 M) (f_X8_median_c3 v0 v1 v2)) else none
set_option maxRecDepth 20000 in
set_option maxHeartbeats 4000000 in
theorem t_X8_median (l : Launch) {v0 : Nat} {v1 : Int32} {v2 : Int32} {M : XM} {q : Int32 × XM} (H : f_X8_median v0 v1 v2 M = some q) : AW l m_X8_median 7 0 0 (x_Ri q) 0 0 0 [some (.ref v0), some (.int v1), some (.int v2), none] [] M := by
  unfold f_X8_median at H
  refine x_aload_n 0 0 dX8_median_0 rfl rfl ?_
  refine x_iload_n 1 1 dX8_median_1 rfl rfl ?_
  refine x_iload_n 2 2 dX8_median_2 rfl rfl ?_
  obtain ⟨h1, H⟩ := x_ckp H
  obtain ⟨r3, M2, e4, H⟩ := x_bd_of H
  refine x_callV 3 240 8 [(.int v1), (.int v2)] [] dX8_median_3 (ct_X8_chanceRefusal l e4) lk_813 lk_815 lk_22 (by decide) h1 lk_85 lk_816 ⟨cn_X8_chanceRefusal, (by decide), by decide⟩ rfl (Nat.le_of_ble_eq_true rfl) (Nat.le_of_ble_eq_true rfl) (Nat.le_of_ble_eq_true rfl) (x_ri ?_)
  exact t_X8_median_c3 l H

theorem ct_X8_median (l : Launch) {v0 : Nat} {v1 : Int32} {v2 : Int32} {M : XM} {q : Int32 × XM} (H : f_X8_median v0 v1 v2 M = some q) : Ct l m_X8_median 7 0 0 [(.ref v0), (.int v1), (.int v2)] M (x_Ri q) := x_met l m_X8_median 7 0 0 [(.ref v0), (.int v1), (.int v2)] M (x_Ri q) _ rfl rfl (Nat.le_of_ble_eq_true rfl) (t_X8_median l H)
theorem lk_826 : Cond.constant RX8 249 (2147483647 : Int32) ∈ x_TB := x_tb (k := 826) (by decide +kernel) rfl
theorem lk_176 : Cond.fieldLink RX8 250 RX4 "cost" "I" ∈ x_TB := x_tb (k := 176) (by decide +kernel) rfl
theorem lk_827 : Cond.methodLink RX8 253 Lib.Math.min.name ∈ x_TB := x_tb (k := 827) (by decide +kernel) rfl
abbrev m_X8_bestApart : XU := (yX8_bestApart, cX8_bestApart, 11, (some .int))
theorem cn_X8_bestApart : m_X8_bestApart.1.cls ≠ "java/lang/invoke/MethodHandle" ∧ m_X8_bestApart.1.cls ≠ "java/lang/invoke/VarHandle" ∧ (parseMethodDescriptor m_X8_bestApart.1.desc).map (fun q => q.parameters.length) = some 2 := by decide +kernel
def f_X8_bestApart_175 (κ79 : Nat → Int32 → Int32 → Int32 → Int32 → Int32 → Int32 → XM → Option (Int32 × XM)) (v0 : Nat) (v1 : Int32) (v2 : Int32) (v4 : Int32) (v5 : Int32) (v6 : Int32) (v7 : Int32) (M : XM) : Option (Int32 × XM) :=
  κ79 v0 v1 v2 v4 v5 v6 (v7 + (1 : Int32)) M
set_option maxRecDepth 20000 in
set_option maxHeartbeats 4000000 in
theorem t_X8_bestApart_175 (l : Launch) {κ79 : Nat → Int32 → Int32 → Int32 → Int32 → Int32 → Int32 → XM → Option (Int32 × XM)} {v0 : Nat} {v1 : Int32} {v2 : Int32} {v4 : Int32} {v5 : Int32} {v6 : Int32} {v7 : Int32} {M : XM} {q : Int32 × XM} (hκ79 : ∀ (v0 : Nat) (v1 : Int32) (v2 : Int32) (v4 : Int32) (v5 : Int32) (v6 : Int32) (v7 : Int32) (M : XM), κ79 v0 v1 v2 v4 v5 v6 v7 M = some q → AW l m_X8_bestApart 7 0 0 (x_Ri q) 0 0 79 [some (.ref v0), some (.int v1), some (.int v2), none, some (.int v4), some (.int v5), some (.int v6), some (.int v7), none, none, none] [] M) (H : f_X8_bestApart_175 κ79 v0 v1 v2 v4 v5 v6 v7 M = some q) : AW l m_X8_bestApart 7 0 0 (x_Ri q) 0 0 175 [some (.ref v0), some (.int v1), some (.int v2), none, some (.int v4), some (.int v5), some (.int v6), some (.int v7), none, none, none] [] M := by
  unfold f_X8_bestApart_175 at H
  refine x_iinc 175 7 (v7 + (1 : Int32)) [some (.ref v0), some (.int v1), some (.int v2), none, some (.int v4), some (.int v5), some (.int v6), some (.int (v7 + (1 : Int32))), none, none, none] dX8_bestApart_175 rfl (congrArg (fun z : Int32 => v7 + z) (show Int32.ofInt (1) = (1 : Int32) by decide)) rfl (Nat.le_of_ble_eq_true rfl) rfl ?_
  refine x_goto 178 79 dX8_bestApart_178 (by decide) ?_
  exact hκ79 _ _ _ _ _ _ _ _ H

def f_X8_bestApart_c150 (κ79 : Nat → Int32 → Int32 → Int32 → Int32 → Int32 → Int32 → XM → Option (Int32 × XM)) (v0 : Nat) (v1 : Int32) (v2 : Int32) (v4 : Int32) (v5 : Int32) (v6 : Int32) (v7 : Int32) (v8 : Int32) (s0 : Int32) (M : XM) : Option (Int32 × XM) :=
  if s0 = (-1 : Int32) then (f_X8_bestApart_175 κ79 v0 v1 v2 v4 v5 v6 v7 M) else (f_X8_bestApart_175 κ79 v0 v1 v2 v7 (s0 + v8) v6 v7 M)
set_option maxRecDepth 20000 in
set_option maxHeartbeats 4000000 in
theorem t_X8_bestApart_c150 (l : Launch) {κ79 : Nat → Int32 → Int32 → Int32 → Int32 → Int32 → Int32 → XM → Option (Int32 × XM)} {v0 : Nat} {v1 : Int32} {v2 : Int32} {v4 : Int32} {v5 : Int32} {v6 : Int32} {v7 : Int32} {v8 : Int32} {s0 : Int32} {M : XM} {q : Int32 × XM} (hκ79 : ∀ (v0 : Nat) (v1 : Int32) (v2 : Int32) (v4 : Int32) (v5 : Int32) (v6 : Int32) (v7 : Int32) (M : XM), κ79 v0 v1 v2 v4 v5 v6 v7 M = some q → AW l m_X8_bestApart 7 0 0 (x_Ri q) 0 0 79 [some (.ref v0), some (.int v1), some (.int v2), none, some (.int v4), some (.int v5), some (.int v6), some (.int v7), none, none, none] [] M) (H : f_X8_bestApart_c150 κ79 v0 v1 v2 v4 v5 v6 v7 v8 s0 M = some q) : AW l m_X8_bestApart 7 0 0 (x_Ri q) 0 0 153 [some (.ref v0), some (.int v1), some (.int v2), none, some (.int v4), some (.int v5), some (.int v6), some (.int v7), some (.int v8), none, none] [(.int s0)] M := by
  unfold f_X8_bestApart_c150 at H
  refine x_istore 153 10 [some (.ref v0), some (.int v1), some (.int v2), none, some (.int v4), some (.int v5), some (.int v6), some (.int v7), some (.int v8), none, some (.int s0)] dX8_bestApart_153 rfl (Nat.le_of_ble_eq_true rfl) rfl ?_
  refine x_iload 155 10 dX8_bestApart_155 rfl ?_
  refine x_iconst 157 (-1 : Int32) dX8_bestApart_157 (by decide) ?_
  refine x_icmp_ne 158 164 dX8_bestApart_158 (by decide) (fun c20 => ?_) (fun c20 => ?_)
  · replace H := x_ifn c20 H
    refine x_iload 164 7 dX8_bestApart_164 rfl ?_
    refine x_istore 166 4 [some (.ref v0), some (.int v1), some (.int v2), none, some (.int v7), some (.int v5), some (.int v6), some (.int v7), some (.int v8), none, some (.int s0)] dX8_bestApart_166 rfl (Nat.le_of_ble_eq_true rfl) rfl ?_
    refine x_iload 168 10 dX8_bestApart_168 rfl ?_
    refine x_iload 170 8 dX8_bestApart_170 rfl ?_
    refine x_iadd 172 dX8_bestApart_172 ?_
    refine x_istore 173 5 [some (.ref v0), some (.int v1), some (.int v2), none, some (.int v7), some (.int (s0 + v8)), some (.int v6), some (.int v7), some (.int v8), none, some (.int s0)] dX8_bestApart_173 rfl (Nat.le_of_ble_eq_true rfl) rfl ?_
    exact x_wk (le_s (le_s (le_s (le_s (le_s (le_s (le_s (le_s (le_n (le_s (le_n le_0))))))))))) (t_X8_bestApart_175 l hκ79 H)
  · replace H := x_ifp c20 H
    refine x_goto 161 175 dX8_bestApart_161 (by decide) ?_
    exact x_wk (le_s (le_s (le_s (le_s (le_s (le_s (le_s (le_s (le_n (le_s (le_n le_0))))))))))) (t_X8_bestApart_175 l hκ79 H)

def bd_X8_bestApart_79 (κ79 : Nat → Int32 → Int32 → Int32 → Int32 → Int32 → Int32 → XM → Option (Int32 × XM)) (v0 : Nat) (v1 : Int32) (v2 : Int32) (v4 : Int32) (v5 : Int32) (v6 : Int32) (v7 : Int32) (M : XM) : Option (Int32 × XM) :=
  if x_tag M v0 = 8 + 10 then (if x_tag M (x_r M v0 0) = 4 + 10 then (if (x_i M (x_r M v0 0) 2) < v7 then (some (v4, M)) else (if v7 = 0 then none else if v6 ≤ (if ((v5 - (1 : Int32)) - ((x_i M (x_r M v0 0) 5) * ((x_i M (x_r M v0 0) 2) / v7))) < (400 : Int32) then ((v5 - (1 : Int32)) - ((x_i M (x_r M v0 0) 5) * ((x_i M (x_r M v0 0) 2) / v7))) else (400 : Int32)) then (if x_tag M (x_r M v0 8) = 1 + 10 then (x_bd (f_X1_untilAtLeast (x_r M v0 8) v2 (x_r M v0 0) v1 v7 (if ((v5 - (1 : Int32)) - ((x_i M (x_r M v0 0) 5) * ((x_i M (x_r M v0 0) 2) / v7))) < (400 : Int32) then ((v5 - (1 : Int32)) - ((x_i M (x_r M v0 0) 5) * ((x_i M (x_r M v0 0) 2) / v7))) else (400 : Int32)) M) (f_X8_bestApart_c150 κ79 v0 v1 v2 v4 v5 v6 v7 ((x_i M (x_r M v0 0) 5) * ((x_i M (x_r M v0 0) 2) / v7)))) else none) else (f_X8_bestApart_175 κ79 v0 v1 v2 v4 v5 v6 v7 M))) else none) else none
set_option maxRecDepth 20000 in
set_option maxHeartbeats 4000000 in
theorem tb_X8_bestApart_79 (l : Launch) {κ79 : Nat → Int32 → Int32 → Int32 → Int32 → Int32 → Int32 → XM → Option (Int32 × XM)} {v0 : Nat} {v1 : Int32} {v2 : Int32} {v4 : Int32} {v5 : Int32} {v6 : Int32} {v7 : Int32} {M : XM} {q : Int32 × XM} (hκ79 : ∀ (v0 : Nat) (v1 : Int32) (v2 : Int32) (v4 : Int32) (v5 : Int32) (v6 : Int32) (v7 : Int32) (M : XM), κ79 v0 v1 v2 v4 v5 v6 v7 M = some q → AW l m_X8_bestApart 7 0 0 (x_Ri q) 0 0 79 [some (.ref v0), some (.int v1), some (.int v2), none, some (.int v4), some (.int v5), some (.int v6), some (.int v7), none, none, none] [] M) (H : bd_X8_bestApart_79 κ79 v0 v1 v2 v4 v5 v6 v7 M = some q) : AW l m_X8_bestApart 7 0 0 (x_Ri q) 0 0 79 [some (.ref v0), some (.int v1), some (.int v2), none, some (.int v4), some (.int v5), some (.int v6), some (.int v7), none, none, none] [] M := by
  unfold bd_X8_bestApart_79 at H
  refine x_iload 79 7 dX8_bestApart_79 rfl ?_
  refine x_aload_n 81 0 dX8_bestApart_81 rfl rfl ?_
  obtain ⟨h11, H⟩ := x_ckp H
  refine x_getf 82 10 8 0 (.ref (x_r M v0 0)) dX8_bestApart_82 lk_360 (by decide) (by decide) rfl (fun _ => rfl) h11 ?_
  obtain ⟨h12, H⟩ := x_ckp H
  refine x_getf 85 190 4 2 (.int (x_i M (x_r M v0 0) 2)) dX8_bestApart_85 lk_166 (by decide) (by decide) rfl (fun _ => rfl) h12 ?_
  refine x_icmp_gt 88 181 dX8_bestApart_88 (by decide) (fun c13 => ?_) (fun c13 => ?_)
  · replace H := x_ifp c13 H
    refine x_iload 181 4 dX8_bestApart_181 rfl ?_
    cases H
    exact x_iret 183 dX8_bestApart_183 .int rfl rfl (Nat.le_of_ble_eq_true rfl) (Nat.le_of_ble_eq_true rfl) ⟨rfl, rfl⟩
  · replace H := x_ifn c13 H
    refine x_aload_n 91 0 dX8_bestApart_91 rfl rfl ?_
    refine x_getf 92 10 8 0 (.ref (x_r M v0 0)) dX8_bestApart_92 lk_360 (by decide) (by decide) rfl (fun _ => rfl) h11 ?_
    refine x_getf 95 250 4 5 (.int (x_i M (x_r M v0 0) 5)) dX8_bestApart_95 lk_176 (by decide) (by decide) rfl (fun _ => rfl) h12 ?_
    refine x_aload_n 98 0 dX8_bestApart_98 rfl rfl ?_
    refine x_getf 99 10 8 0 (.ref (x_r M v0 0)) dX8_bestApart_99 lk_360 (by decide) (by decide) rfl (fun _ => rfl) h11 ?_
    refine x_getf 102 190 4 2 (.int (x_i M (x_r M v0 0) 2)) dX8_bestApart_102 lk_166 (by decide) (by decide) rfl (fun _ => rfl) h12 ?_
    refine x_iload 105 7 dX8_bestApart_105 rfl ?_
    obtain ⟨h14, H⟩ := x_cnz H
    refine x_idiv 107 dX8_bestApart_107 h14 ?_
    refine x_imul 108 dX8_bestApart_108 ?_
    refine x_istore 109 8 [some (.ref v0), some (.int v1), some (.int v2), none, some (.int v4), some (.int v5), some (.int v6), some (.int v7), some (.int ((x_i M (x_r M v0 0) 5) * ((x_i M (x_r M v0 0) 2) / v7))), none, none] dX8_bestApart_109 rfl (Nat.le_of_ble_eq_true rfl) rfl ?_
    refine x_sipush 111 (400 : Int32) dX8_bestApart_111 (by decide) ?_
    refine x_iload 114 5 dX8_bestApart_114 rfl ?_
    refine x_iconst 116 (1 : Int32) dX8_bestApart_116 (by decide) ?_
    refine x_isub 117 dX8_bestApart_117 ?_
    refine x_iload 118 8 dX8_bestApart_118 rfl ?_
    refine x_isub 120 dX8_bestApart_120 ?_
    refine x_min 121 253 dX8_bestApart_121 lk_827 lk_561 lk_97 lk_562 rfl (Nat.le_of_ble_eq_true rfl) (by decide) (Nat.le_of_ble_eq_true rfl) (Nat.le_of_ble_eq_true rfl) ?_
    refine x_istore 124 9 [some (.ref v0), some (.int v1), some (.int v2), none, some (.int v4), some (.int v5), some (.int v6), some (.int v7), some (.int ((x_i M (x_r M v0 0) 5) * ((x_i M (x_r M v0 0) 2) / v7))), some (.int (if ((v5 - (1 : Int32)) - ((x_i M (x_r M v0 0) 5) * ((x_i M (x_r M v0 0) 2) / v7))) < (400 : Int32) then ((v5 - (1 : Int32)) - ((x_i M (x_r M v0 0) 5) * ((x_i M (x_r M v0 0) 2) / v7))) else (400 : Int32))), none] dX8_bestApart_124 rfl (Nat.le_of_ble_eq_true rfl) rfl ?_
    refine x_iload 126 9 dX8_bestApart_126 rfl ?_
    refine x_iload 128 6 dX8_bestApart_128 rfl ?_
    refine x_icmp_ge 130 136 dX8_bestApart_130 (by decide) (fun c15 => ?_) (fun c15 => ?_)
    · replace H := x_ifp c15 H
      refine x_aload_n 136 0 dX8_bestApart_136 rfl rfl ?_
      refine x_getf 137 50 8 8 (.ref (x_r M v0 8)) dX8_bestApart_137 lk_368 (by decide) (by decide) rfl (fun _ => rfl) h11 ?_
      refine x_iload_n 140 2 dX8_bestApart_140 rfl rfl ?_
      refine x_aload_n 141 0 dX8_bestApart_141 rfl rfl ?_
      refine x_getf 142 10 8 0 (.ref (x_r M v0 0)) dX8_bestApart_142 lk_360 (by decide) (by decide) rfl (fun _ => rfl) h11 ?_
      refine x_iload_n 145 1 dX8_bestApart_145 rfl rfl ?_
      refine x_iload 146 7 dX8_bestApart_146 rfl ?_
      refine x_iload 148 9 dX8_bestApart_148 rfl ?_
      obtain ⟨h16, H⟩ := x_ckp H
      obtain ⟨r18, M17, e19, H⟩ := x_bd_of H
      refine x_callV 150 243 1 [(.int v2), (.ref (x_r M v0 0)), (.int v1), (.int v7), (.int (if ((v5 - (1 : Int32)) - ((x_i M (x_r M v0 0) 5) * ((x_i M (x_r M v0 0) 2) / v7))) < (400 : Int32) then ((v5 - (1 : Int32)) - ((x_i M (x_r M v0 0) 5) * ((x_i M (x_r M v0 0) 2) / v7))) else (400 : Int32)))] [] dX8_bestApart_150 (ct_X1_untilAtLeast l e19) lk_818 lk_819 lk_820 (by decide) h16 lk_90 lk_821 ⟨cn_X1_untilAtLeast, (by decide), by decide⟩ rfl (Nat.le_of_ble_eq_true rfl) (Nat.le_of_ble_eq_true rfl) (Nat.le_of_ble_eq_true rfl) (x_ri ?_)
      exact x_wk (le_s (le_s (le_s (le_s (le_s (le_s (le_s (le_s (le_s (le_n (le_s le_0))))))))))) (t_X8_bestApart_c150 l hκ79 H)
    · replace H := x_ifn c15 H
      refine x_goto 133 175 dX8_bestApart_133 (by decide) ?_
      exact x_wk (le_s (le_s (le_s (le_s (le_s (le_s (le_s (le_s (le_n (le_n (le_s le_0))))))))))) (t_X8_bestApart_175 l hκ79 H)

def lp_X8_bestApart_79 (n : Nat) : Nat → Int32 → Int32 → Int32 → Int32 → Int32 → Int32 → XM → Option (Int32 × XM) := x_rec (fun _ _ _ _ _ _ _ _ => none) (bd_X8_bestApart_79) n
theorem t_X8_bestApart_79 (l : Launch) {q : Int32 × XM} : ∀ (n : Nat) (v0 : Nat) (v1 : Int32) (v2 : Int32) (v4 : Int32) (v5 : Int32) (v6 : Int32) (v7 : Int32) (M : XM), lp_X8_bestApart_79 n v0 v1 v2 v4 v5 v6 v7 M = some q → AW l m_X8_bestApart 7 0 0 (x_Ri q) 0 0 79 [some (.ref v0), some (.int v1), some (.int v2), none, some (.int v4), some (.int v5), some (.int v6), some (.int v7), none, none, none] [] M := by
  intro n
  induction n with
  | zero => intro v0 v1 v2 v4 v5 v6 v7 M H; cases H
  | succ n ih => intro v0 v1 v2 v4 v5 v6 v7 M H; exact tb_X8_bestApart_79 l ih H
def f_X8_bestApart_c40 (s0 : Int32) (M : XM) : Option (Int32 × XM) :=
  some ((s0 - (10 : Int32)), M)
set_option maxRecDepth 20000 in
set_option maxHeartbeats 4000000 in
theorem t_X8_bestApart_c40 (l : Launch) {s0 : Int32} {M : XM} {q : Int32 × XM} (H : f_X8_bestApart_c40 s0 M = some q) : AW l m_X8_bestApart 7 0 0 (x_Ri q) 0 0 43 [none, none, none, none, none, none, none, none, none, none, none] [(.int s0)] M := by
  unfold f_X8_bestApart_c40 at H
  refine x_bipush 43 (10 : Int32) dX8_bestApart_43 (by decide) ?_
  refine x_isub 45 dX8_bestApart_45 ?_
  cases H
  exact x_iret 46 dX8_bestApart_46 .int rfl rfl (Nat.le_of_ble_eq_true rfl) (Nat.le_of_ble_eq_true rfl) ⟨rfl, rfl⟩

def f_X8_bestApart_34 (v0 : Nat) (v1 : Int32) (v2 : Int32) (v3 : Int32) (M : XM) : Option (Int32 × XM) :=
  if v3 = 0 then (if x_tag M v0 = 8 + 10 then (if x_tag M (x_r M v0 0) = 4 + 10 then (if x_at M (x_r M (x_r M v0 0) 0) 3 v1 = true then (if x_tag M (x_r M (x_r M (x_r M v0 0) 0) v1.toNatClampNeg) = 2 + 10 then (lp_X8_bestApart_79 x_fuel v0 v1 v2 (-1 : Int32) (2147483647 : Int32) ((x_i M (x_r M v0 0) 2) - (x_i M (x_r M (x_r M (x_r M v0 0) 0) v1.toNatClampNeg) 2)) (1 : Int32) M) else none) else none) else none) else none) else (if x_tag M v0 = 8 + 10 then (x_bd (f_X8_refuse v0 v3 M) f_X8_bestApart_c40) else none)
set_option maxRecDepth 20000 in
set_option maxHeartbeats 4000000 in
theorem t_X8_bestApart_34 (l : Launch) {v0 : Nat} {v1 : Int32} {v2 : Int32} {v3 : Int32} {M : XM} {q : Int32 × XM} (H : f_X8_bestApart_34 v0 v1 v2 v3 M = some q) : AW l m_X8_bestApart 7 0 0 (x_Ri q) 0 0 34 [some (.ref v0), some (.int v1), some (.int v2), some (.int v3), none, none, none, none, none, none, none] [] M := by
  unfold f_X8_bestApart_34 at H
  refine x_iload_n 34 3 dX8_bestApart_34 rfl rfl ?_
  refine x_if_eq 35 47 dX8_bestApart_35 (by decide) (fun c6 => ?_) (fun c6 => ?_)
  · replace H := x_ifp c6 H
    refine x_iconst 47 (-1 : Int32) dX8_bestApart_47 (by decide) ?_
    refine x_istore 48 4 [some (.ref v0), some (.int v1), some (.int v2), some (.int v3), some (.int (-1 : Int32)), none, none, none, none, none, none] dX8_bestApart_48 rfl (Nat.le_of_ble_eq_true rfl) rfl ?_
    refine x_ldc 50 (2147483647 : Int32) dX8_bestApart_50 lk_826 ?_
    refine x_istore 52 5 [some (.ref v0), some (.int v1), some (.int v2), some (.int v3), some (.int (-1 : Int32)), some (.int (2147483647 : Int32)), none, none, none, none, none] dX8_bestApart_52 rfl (Nat.le_of_ble_eq_true rfl) rfl ?_
    refine x_aload_n 54 0 dX8_bestApart_54 rfl rfl ?_
    obtain ⟨h7, H⟩ := x_ckp H
    refine x_getf 55 10 8 0 (.ref (x_r M v0 0)) dX8_bestApart_55 lk_360 (by decide) (by decide) rfl (fun _ => rfl) h7 ?_
    obtain ⟨h8, H⟩ := x_ckp H
    refine x_getf 58 190 4 2 (.int (x_i M (x_r M v0 0) 2)) dX8_bestApart_58 lk_166 (by decide) (by decide) rfl (fun _ => rfl) h8 ?_
    refine x_aload_n 61 0 dX8_bestApart_61 rfl rfl ?_
    refine x_getf 62 10 8 0 (.ref (x_r M v0 0)) dX8_bestApart_62 lk_360 (by decide) (by decide) rfl (fun _ => rfl) h7 ?_
    refine x_getf 65 144 4 0 (.ref (x_r M (x_r M v0 0) 0)) dX8_bestApart_65 lk_158 (by decide) (by decide) rfl (fun _ => rfl) h8 ?_
    refine x_iload_n 68 1 dX8_bestApart_68 rfl rfl ?_
    obtain ⟨h9, H⟩ := x_ckp H
    refine x_aald3 69 dX8_bestApart_69 h9 ?_
    obtain ⟨h10, H⟩ := x_ckp H
    refine x_getf 70 169 2 2 (.int (x_i M (x_r M (x_r M (x_r M v0 0) 0) v1.toNatClampNeg) 2)) dX8_bestApart_70 lk_135 (by decide) (by decide) rfl (fun _ => rfl) h10 ?_
    refine x_isub 73 dX8_bestApart_73 ?_
    refine x_istore 74 6 [some (.ref v0), some (.int v1), some (.int v2), some (.int v3), some (.int (-1 : Int32)), some (.int (2147483647 : Int32)), some (.int ((x_i M (x_r M v0 0) 2) - (x_i M (x_r M (x_r M (x_r M v0 0) 0) v1.toNatClampNeg) 2))), none, none, none, none] dX8_bestApart_74 rfl (Nat.le_of_ble_eq_true rfl) rfl ?_
    refine x_iconst 76 (1 : Int32) dX8_bestApart_76 (by decide) ?_
    refine x_istore 77 7 [some (.ref v0), some (.int v1), some (.int v2), some (.int v3), some (.int (-1 : Int32)), some (.int (2147483647 : Int32)), some (.int ((x_i M (x_r M v0 0) 2) - (x_i M (x_r M (x_r M (x_r M v0 0) 0) v1.toNatClampNeg) 2))), some (.int (1 : Int32)), none, none, none] dX8_bestApart_77 rfl (Nat.le_of_ble_eq_true rfl) rfl ?_
    exact x_wk (le_s (le_s (le_s (le_n (le_s (le_s (le_s (le_s (le_s (le_s (le_s le_0))))))))))) (t_X8_bestApart_79 l _ _ _ _ _ _ _ _ _ H)
  · replace H := x_ifn c6 H
    refine x_aload_n 38 0 dX8_bestApart_38 rfl rfl ?_
    refine x_iload_n 39 3 dX8_bestApart_39 rfl rfl ?_
    obtain ⟨h21, H⟩ := x_ckp H
    obtain ⟨r23, M22, e24, H⟩ := x_bd_of H
    refine x_callV 40 86 8 [(.int v3)] [] dX8_bestApart_40 (ct_X8_refuse l e24) lk_410 lk_412 lk_0 (by decide) h21 lk_85 lk_413 ⟨cn_X8_refuse, (by decide), by decide⟩ rfl (Nat.le_of_ble_eq_true rfl) (Nat.le_of_ble_eq_true rfl) (Nat.le_of_ble_eq_true rfl) (x_ri ?_)
    exact x_wk (le_n (le_n (le_n (le_n (le_s (le_s (le_s (le_s (le_s (le_s (le_s le_0))))))))))) (t_X8_bestApart_c40 l H)

def f_X8_bestApart_c25 (v0 : Nat) (v1 : Int32) (v2 : Int32) (v3 : Int32) (s0 : Int32) (M : XM) : Option (Int32 × XM) :=
  if s0 = 0 then (f_X8_bestApart_34 v0 v1 v2 (-2 : Int32) M) else (f_X8_bestApart_34 v0 v1 v2 v3 M)
set_option maxRecDepth 20000 in
set_option maxHeartbeats 4000000 in
theorem t_X8_bestApart_c25 (l : Launch) {v0 : Nat} {v1 : Int32} {v2 : Int32} {v3 : Int32} {s0 : Int32} {M : XM} {q : Int32 × XM} (H : f_X8_bestApart_c25 v0 v1 v2 v3 s0 M = some q) : AW l m_X8_bestApart 7 0 0 (x_Ri q) 0 0 28 [some (.ref v0), some (.int v1), some (.int v2), some (.int v3), none, none, none, none, none, none, none] [(.int s0)] M := by
  unfold f_X8_bestApart_c25 at H
  refine x_if_ne 28 34 dX8_bestApart_28 (by decide) (fun c32 => ?_) (fun c32 => ?_)
  · replace H := x_ifn c32 H
    exact t_X8_bestApart_34 l H
  · replace H := x_ifp c32 H
    refine x_bipush 31 (-2 : Int32) dX8_bestApart_31 (by decide) ?_
    refine x_istore_n 33 3 [some (.ref v0), some (.int v1), some (.int v2), some (.int (-2 : Int32)), none, none, none, none, none, none, none] dX8_bestApart_33 rfl rfl (Nat.le_of_ble_eq_true rfl) rfl ?_
    exact t_X8_bestApart_34 l H

def f_X8_bestApart_c3 (v0 : Nat) (v1 : Int32) (v2 : Int32) (s0 : Int32) (M : XM) : Option (Int32 × XM) :=
  if s0 = (-1 : Int32) then (f_X8_bestApart_34 v0 v1 v2 s0 M) else (if x_tag M v0 = 8 + 10 then (if x_tag M (x_r M v0 0) = 4 + 10 then (if x_at M (x_r M (x_r M v0 0) 0) 3 v1 = true then (if x_tag M (x_r M (x_r M (x_r M v0 0) 0) v1.toNatClampNeg) = 2 + 10 then (x_bd (f_X8_isUnder (x_i M (x_r M (x_r M (x_r M v0 0) 0) v1.toNatClampNeg) 0) (1 : Int32) M) (f_X8_bestApart_c25 v0 v1 v2 s0)) else none) else none) else none) else none)
set_option maxRecDepth 20000 in
set_option maxHeartbeats 4000000 in
theorem t_X8_bestApart_c3 (l : Launch) {v0 : Nat} {v1 : Int32} {v2 : Int32} {s0 : Int32} {M : XM} {q : Int32 × XM} (H : f_X8_bestApart_c3 v0 v1 v2 s0 M = some q) : AW l m_X8_bestApart 7 0 0 (x_Ri q) 0 0 6 [some (.ref v0), some (.int v1), some (.int v2), none, none, none, none, none, none, none, none] [(.int s0)] M := by
  unfold f_X8_bestApart_c3 at H
  refine x_istore_n 6 3 [some (.ref v0), some (.int v1), some (.int v2), some (.int s0), none, none, none, none, none, none, none] dX8_bestApart_6 rfl rfl (Nat.le_of_ble_eq_true rfl) rfl ?_
  refine x_iload_n 7 3 dX8_bestApart_7 rfl rfl ?_
  refine x_iconst 8 (-1 : Int32) dX8_bestApart_8 (by decide) ?_
  refine x_icmp_eq 9 34 dX8_bestApart_9 (by decide) (fun c5 => ?_) (fun c5 => ?_)
  · replace H := x_ifp c5 H
    exact t_X8_bestApart_34 l H
  · replace H := x_ifn c5 H
    refine x_aload_n 12 0 dX8_bestApart_12 rfl rfl ?_
    obtain ⟨h25, H⟩ := x_ckp H
    refine x_getf 13 10 8 0 (.ref (x_r M v0 0)) dX8_bestApart_13 lk_360 (by decide) (by decide) rfl (fun _ => rfl) h25 ?_
    obtain ⟨h26, H⟩ := x_ckp H
    refine x_getf 16 144 4 0 (.ref (x_r M (x_r M v0 0) 0)) dX8_bestApart_16 lk_158 (by decide) (by decide) rfl (fun _ => rfl) h26 ?_
    refine x_iload_n 19 1 dX8_bestApart_19 rfl rfl ?_
    obtain ⟨h27, H⟩ := x_ckp H
    refine x_aald3 20 dX8_bestApart_20 h27 ?_
    obtain ⟨h28, H⟩ := x_ckp H
    refine x_getf 21 148 2 0 (.int (x_i M (x_r M (x_r M (x_r M v0 0) 0) v1.toNatClampNeg) 0)) dX8_bestApart_21 lk_125 (by decide) (by decide) rfl (fun _ => rfl) h28 ?_
    refine x_iconst 24 (1 : Int32) dX8_bestApart_24 (by decide) ?_
    obtain ⟨r30, M29, e31, H⟩ := x_bd_of H
    refine x_callS 25 151 [(.int (x_i M (x_r M (x_r M (x_r M v0 0) 0) v1.toNatClampNeg) 0)), (.int (1 : Int32))] [] dX8_bestApart_25 (ct_X8_isUnder l e31) lk_504 lk_505 lk_85 lk_506 ⟨cn_X8_isUnder, (by decide), by decide⟩ rfl (Nat.le_of_ble_eq_true rfl) (Nat.le_of_ble_eq_true rfl) (Nat.le_of_ble_eq_true rfl) (x_ri ?_)
    exact t_X8_bestApart_c25 l H

def f_X8_bestApart (v0 : Nat) (v1 : Int32) (v2 : Int32) (M : XM) : Option (Int32 × XM) :=
  if x_tag M v0 = 8 + 10 then (x_bd (f_X8_chanceRefusal v0 v1 v2 M) (f_X8_bestApart_c3 v0 v1 v2)) else none
set_option maxRecDepth 20000 in
set_option maxHeartbeats 4000000 in
theorem t_X8_bestApart (l : Launch) {v0 : Nat} {v1 : Int32} {v2 : Int32} {M : XM} {q : Int32 × XM} (H : f_X8_bestApart v0 v1 v2 M = some q) : AW l m_X8_bestApart 7 0 0 (x_Ri q) 0 0 0 [some (.ref v0), some (.int v1), some (.int v2), none, none, none, none, none, none, none, none] [] M := by
  unfold f_X8_bestApart at H
  refine x_aload_n 0 0 dX8_bestApart_0 rfl rfl ?_
  refine x_iload_n 1 1 dX8_bestApart_1 rfl rfl ?_
  refine x_iload_n 2 2 dX8_bestApart_2 rfl rfl ?_
  obtain ⟨h1, H⟩ := x_ckp H
  obtain ⟨r3, M2, e4, H⟩ := x_bd_of H
  refine x_callV 3 240 8 [(.int v1), (.int v2)] [] dX8_bestApart_3 (ct_X8_chanceRefusal l e4) lk_813 lk_815 lk_22 (by decide) h1 lk_85 lk_816 ⟨cn_X8_chanceRefusal, (by decide), by decide⟩ rfl (Nat.le_of_ble_eq_true rfl) (Nat.le_of_ble_eq_true rfl) (Nat.le_of_ble_eq_true rfl) (x_ri ?_)
  exact t_X8_bestApart_c3 l H

theorem ct_X8_bestApart (l : Launch) {v0 : Nat} {v1 : Int32} {v2 : Int32} {M : XM} {q : Int32 × XM} (H : f_X8_bestApart v0 v1 v2 M = some q) : Ct l m_X8_bestApart 7 0 0 [(.ref v0), (.int v1), (.int v2)] M (x_Ri q) := x_met l m_X8_bestApart 7 0 0 [(.ref v0), (.int v1), (.int v2)] M (x_Ri q) _ rfl rfl (Nat.le_of_ble_eq_true rfl) (t_X8_bestApart l H)
abbrev m_X8_throughWithBreak : XU := (yX8_throughWithBreak, cX8_throughWithBreak, 6, (some .int))
theorem cn_X8_throughWithBreak : m_X8_throughWithBreak.1.cls ≠ "java/lang/invoke/MethodHandle" ∧ m_X8_throughWithBreak.1.cls ≠ "java/lang/invoke/VarHandle" ∧ (parseMethodDescriptor m_X8_throughWithBreak.1.desc).map (fun q => q.parameters.length) = some 2 := by decide +kernel
def f_X8_throughWithBreak_c55 (v0 : Nat) (v2 : Int32) (s0 : Int32) (M : XM) : Option (Int32 × XM) :=
  if x_tag M v0 = 8 + 10 then (if x_tag M (x_r M v0 0) = 4 + 10 then (some (((v2 + (x_i M (x_r M v0 0) 2)) - s0), M)) else none) else none
set_option maxRecDepth 20000 in
set_option maxHeartbeats 4000000 in
theorem t_X8_throughWithBreak_c55 (l : Launch) {v0 : Nat} {v2 : Int32} {s0 : Int32} {M : XM} {q : Int32 × XM} (H : f_X8_throughWithBreak_c55 v0 v2 s0 M = some q) : AW l m_X8_throughWithBreak 2 0 0 (x_Ri q) 0 0 58 [some (.ref v0), none, some (.int v2), none, none, none] [(.int s0)] M := by
  unfold f_X8_throughWithBreak_c55 at H
  refine x_istore 58 5 [some (.ref v0), none, some (.int v2), none, none, some (.int s0)] dX8_throughWithBreak_58 rfl (Nat.le_of_ble_eq_true rfl) rfl ?_
  refine x_iload_n 60 2 dX8_throughWithBreak_60 rfl rfl ?_
  refine x_aload_n 61 0 dX8_throughWithBreak_61 rfl rfl ?_
  obtain ⟨h9, H⟩ := x_ckp H
  refine x_getf 62 10 8 0 (.ref (x_r M v0 0)) dX8_throughWithBreak_62 lk_360 (by decide) (by decide) rfl (fun _ => rfl) h9 ?_
  obtain ⟨h10, H⟩ := x_ckp H
  refine x_getf 65 190 4 2 (.int (x_i M (x_r M v0 0) 2)) dX8_throughWithBreak_65 lk_166 (by decide) (by decide) rfl (fun _ => rfl) h10 ?_
  refine x_iadd 68 dX8_throughWithBreak_68 ?_
  refine x_iload 69 5 dX8_throughWithBreak_69 rfl ?_
  refine x_isub 71 dX8_throughWithBreak_71 ?_
  cases H
  exact x_iret 72 dX8_throughWithBreak_72 .int rfl rfl (Nat.le_of_ble_eq_true rfl) (Nat.le_of_ble_eq_true rfl) ⟨rfl, rfl⟩

def f_X8_throughWithBreak (v0 : Nat) (v1 : Int32) (v2 : Int32) (M : XM) : Option (Int32 × XM) :=
  if x_tag M v0 = 8 + 10 then (if x_tag M (x_r M v0 0) = 4 + 10 then (if x_at M (x_r M (x_r M v0 0) 0) 3 v1 = true then (if x_tag M (x_r M (x_r M (x_r M v0 0) 0) v1.toNatClampNeg) = 2 + 10 then (if v2 ≤ ((x_i M (x_r M v0 0) 2) - (x_i M (x_r M (x_r M (x_r M v0 0) 0) v1.toNatClampNeg) 2)) then (x_bd (f_X2_leftAt (x_r M (x_r M (x_r M v0 0) 0) v1.toNatClampNeg) (((x_i M (x_r M (x_r M (x_r M v0 0) 0) v1.toNatClampNeg) 2) + v2) - (1 : Int32)) ((x_i M (x_r M (x_r M (x_r M v0 0) 0) v1.toNatClampNeg) 4) + (1 : Int32)) (x_i M (x_r M v0 0) 3) M) (f_X8_throughWithBreak_c55 v0 v2)) else (some (((x_i M (x_r M v0 0) 2) - (x_i M (x_r M (x_r M (x_r M v0 0) 0) v1.toNatClampNeg) 2)), M))) else none) else none) else none) else none
set_option maxRecDepth 20000 in
set_option maxHeartbeats 4000000 in
theorem t_X8_throughWithBreak (l : Launch) {v0 : Nat} {v1 : Int32} {v2 : Int32} {M : XM} {q : Int32 × XM} (H : f_X8_throughWithBreak v0 v1 v2 M = some q) : AW l m_X8_throughWithBreak 2 0 0 (x_Ri q) 0 0 0 [some (.ref v0), some (.int v1), some (.int v2), none, none, none] [] M := by
  unfold f_X8_throughWithBreak at H
  refine x_aload_n 0 0 dX8_throughWithBreak_0 rfl rfl ?_
  obtain ⟨h1, H⟩ := x_ckp H
  refine x_getf 1 10 8 0 (.ref (x_r M v0 0)) dX8_throughWithBreak_1 lk_360 (by decide) (by decide) rfl (fun _ => rfl) h1 ?_
  obtain ⟨h2, H⟩ := x_ckp H
  refine x_getf 4 144 4 0 (.ref (x_r M (x_r M v0 0) 0)) dX8_throughWithBreak_4 lk_158 (by decide) (by decide) rfl (fun _ => rfl) h2 ?_
  refine x_iload_n 7 1 dX8_throughWithBreak_7 rfl rfl ?_
  obtain ⟨h3, H⟩ := x_ckp H
  refine x_aald3 8 dX8_throughWithBreak_8 h3 ?_
  refine x_astore_n 9 3 [some (.ref v0), some (.int v1), some (.int v2), some (.ref (x_r M (x_r M (x_r M v0 0) 0) v1.toNatClampNeg)), none, none] dX8_throughWithBreak_9 rfl rfl (Nat.le_of_ble_eq_true rfl) rfl ?_
  refine x_aload_n 10 0 dX8_throughWithBreak_10 rfl rfl ?_
  refine x_getf 11 10 8 0 (.ref (x_r M v0 0)) dX8_throughWithBreak_11 lk_360 (by decide) (by decide) rfl (fun _ => rfl) h1 ?_
  refine x_getf 14 190 4 2 (.int (x_i M (x_r M v0 0) 2)) dX8_throughWithBreak_14 lk_166 (by decide) (by decide) rfl (fun _ => rfl) h2 ?_
  refine x_aload_n 17 3 dX8_throughWithBreak_17 rfl rfl ?_
  obtain ⟨h4, H⟩ := x_ckp H
  refine x_getf 18 169 2 2 (.int (x_i M (x_r M (x_r M (x_r M v0 0) 0) v1.toNatClampNeg) 2)) dX8_throughWithBreak_18 lk_135 (by decide) (by decide) rfl (fun _ => rfl) h4 ?_
  refine x_isub 21 dX8_throughWithBreak_21 ?_
  refine x_istore 22 4 [some (.ref v0), some (.int v1), some (.int v2), some (.ref (x_r M (x_r M (x_r M v0 0) 0) v1.toNatClampNeg)), some (.int ((x_i M (x_r M v0 0) 2) - (x_i M (x_r M (x_r M (x_r M v0 0) 0) v1.toNatClampNeg) 2))), none] dX8_throughWithBreak_22 rfl (Nat.le_of_ble_eq_true rfl) rfl ?_
  refine x_iload_n 24 2 dX8_throughWithBreak_24 rfl rfl ?_
  refine x_iload 25 4 dX8_throughWithBreak_25 rfl ?_
  refine x_icmp_le 27 33 dX8_throughWithBreak_27 (by decide) (fun c5 => ?_) (fun c5 => ?_)
  · replace H := x_ifp c5 H
    refine x_aload_n 33 3 dX8_throughWithBreak_33 rfl rfl ?_
    refine x_aload_n 34 3 dX8_throughWithBreak_34 rfl rfl ?_
    refine x_getf 35 169 2 2 (.int (x_i M (x_r M (x_r M (x_r M v0 0) 0) v1.toNatClampNeg) 2)) dX8_throughWithBreak_35 lk_135 (by decide) (by decide) rfl (fun _ => rfl) h4 ?_
    refine x_iload_n 38 2 dX8_throughWithBreak_38 rfl rfl ?_
    refine x_iadd 39 dX8_throughWithBreak_39 ?_
    refine x_iconst 40 (1 : Int32) dX8_throughWithBreak_40 (by decide) ?_
    refine x_isub 41 dX8_throughWithBreak_41 ?_
    refine x_aload_n 42 3 dX8_throughWithBreak_42 rfl rfl ?_
    refine x_getf 43 175 2 4 (.int (x_i M (x_r M (x_r M (x_r M v0 0) 0) v1.toNatClampNeg) 4)) dX8_throughWithBreak_43 lk_141 (by decide) (by decide) rfl (fun _ => rfl) h4 ?_
    refine x_iconst 46 (1 : Int32) dX8_throughWithBreak_46 (by decide) ?_
    refine x_iadd 47 dX8_throughWithBreak_47 ?_
    refine x_aload_n 48 0 dX8_throughWithBreak_48 rfl rfl ?_
    refine x_getf 49 10 8 0 (.ref (x_r M v0 0)) dX8_throughWithBreak_49 lk_360 (by decide) (by decide) rfl (fun _ => rfl) h1 ?_
    refine x_getf 52 154 4 3 (.int (x_i M (x_r M v0 0) 3)) dX8_throughWithBreak_52 lk_171 (by decide) (by decide) rfl (fun _ => rfl) h2 ?_
    obtain ⟨r7, M6, e8, H⟩ := x_bd_of H
    refine x_callV 55 210 2 [(.int (((x_i M (x_r M (x_r M (x_r M v0 0) 0) v1.toNatClampNeg) 2) + v2) - (1 : Int32))), (.int ((x_i M (x_r M (x_r M (x_r M v0 0) 0) v1.toNatClampNeg) 4) + (1 : Int32))), (.int (x_i M (x_r M v0 0) 3))] [] dX8_throughWithBreak_55 (ct_X2_leftAt l e8) lk_733 lk_711 lk_712 (by decide) h4 lk_87 lk_713 ⟨cn_X2_leftAt, (by decide), by decide⟩ rfl (Nat.le_of_ble_eq_true rfl) (Nat.le_of_ble_eq_true rfl) (Nat.le_of_ble_eq_true rfl) (x_ri ?_)
    exact x_wk (le_s (le_n (le_s (le_n (le_n (le_s le_0)))))) (t_X8_throughWithBreak_c55 l H)
  · replace H := x_ifn c5 H
    refine x_iload 30 4 dX8_throughWithBreak_30 rfl ?_
    cases H
    exact x_iret 32 dX8_throughWithBreak_32 .int rfl rfl (Nat.le_of_ble_eq_true rfl) (Nat.le_of_ble_eq_true rfl) ⟨rfl, rfl⟩

theorem ct_X8_throughWithBreak (l : Launch) {v0 : Nat} {v1 : Int32} {v2 : Int32} {M : XM} {q : Int32 × XM} (H : f_X8_throughWithBreak v0 v1 v2 M = some q) : Ct l m_X8_throughWithBreak 2 0 0 [(.ref v0), (.int v1), (.int v2)] M (x_Ri q) := x_met l m_X8_throughWithBreak 2 0 0 [(.ref v0), (.int v1), (.int v2)] M (x_Ri q) _ rfl rfl (Nat.le_of_ble_eq_true rfl) (t_X8_throughWithBreak l H)
theorem lk_835 : Cond.code yX8_throughWithBreak cX8_throughWithBreak 6 (some .int) ∈ x_TB := x_tb (k := 835) (by decide +kernel) rfl
theorem lk_832 : Cond.methodLink RX8 258 yX8_throughWithBreak ∈ x_TB := x_tb (k := 832) (by decide +kernel) rfl
theorem lk_23 : Cond.selects RX8 yX8_throughWithBreak yX8_throughWithBreak ∈ x_TB := x_tb (k := 23) (by decide +kernel) rfl
theorem lk_834 : Cond.instanceMethod yX8_throughWithBreak ∈ x_TB := x_tb (k := 834) (by decide +kernel) rfl
abbrev m_X8_when : XU := (yX8_when, cX8_when, 9, (some .int))
theorem cn_X8_when : m_X8_when.1.cls ≠ "java/lang/invoke/MethodHandle" ∧ m_X8_when.1.cls ≠ "java/lang/invoke/VarHandle" ∧ (parseMethodDescriptor m_X8_when.1.desc).map (fun q => q.parameters.length) = some 3 := by decide +kernel
def f_X8_when_23 (v0 : Nat) (M : XM) : Option (Int32 × XM) :=
  if x_tag M v0 = 8 + 10 then (x_bd (f_X8_refuse v0 (-5 : Int32) M) (fun r13 M12 => some (r13, M12))) else none
set_option maxRecDepth 20000 in
set_option maxHeartbeats 4000000 in
theorem t_X8_when_23 (l : Launch) {v0 : Nat} {M : XM} {q : Int32 × XM} (H : f_X8_when_23 v0 M = some q) : AW l m_X8_when 3 0 0 (x_Ri q) 0 0 23 [some (.ref v0), none, none, none, none, none, none, none, none] [] M := by
  unfold f_X8_when_23 at H
  refine x_aload_n 23 0 dX8_when_23 rfl rfl ?_
  refine x_bipush 24 (-5 : Int32) dX8_when_24 (by decide) ?_
  obtain ⟨h11, H⟩ := x_ckp H
  obtain ⟨r13, M12, e14, H⟩ := x_bd_of H
  refine x_callV 26 86 8 [(.int (-5 : Int32))] [] dX8_when_26 (ct_X8_refuse l e14) lk_410 lk_412 lk_0 (by decide) h11 lk_85 lk_413 ⟨cn_X8_refuse, (by decide), by decide⟩ rfl (Nat.le_of_ble_eq_true rfl) (Nat.le_of_ble_eq_true rfl) (Nat.le_of_ble_eq_true rfl) (x_ri ?_)
  cases H
  exact x_iret 29 dX8_when_29 .int rfl rfl (Nat.le_of_ble_eq_true rfl) (Nat.le_of_ble_eq_true rfl) ⟨rfl, rfl⟩

def f_X8_when_52 (v0 : Nat) (M : XM) : Option (Int32 × XM) :=
  if x_tag M v0 = 8 + 10 then (x_bd (f_X8_refuse v0 (-6 : Int32) M) (fun r19 M18 => some (r19, M18))) else none
set_option maxRecDepth 20000 in
set_option maxHeartbeats 4000000 in
theorem t_X8_when_52 (l : Launch) {v0 : Nat} {M : XM} {q : Int32 × XM} (H : f_X8_when_52 v0 M = some q) : AW l m_X8_when 3 0 0 (x_Ri q) 0 0 52 [some (.ref v0), none, none, none, none, none, none, none, none] [] M := by
  unfold f_X8_when_52 at H
  refine x_aload_n 52 0 dX8_when_52 rfl rfl ?_
  refine x_bipush 53 (-6 : Int32) dX8_when_53 (by decide) ?_
  obtain ⟨h17, H⟩ := x_ckp H
  obtain ⟨r19, M18, e20, H⟩ := x_bd_of H
  refine x_callV 55 86 8 [(.int (-6 : Int32))] [] dX8_when_55 (ct_X8_refuse l e20) lk_410 lk_412 lk_0 (by decide) h17 lk_85 lk_413 ⟨cn_X8_refuse, (by decide), by decide⟩ rfl (Nat.le_of_ble_eq_true rfl) (Nat.le_of_ble_eq_true rfl) (Nat.le_of_ble_eq_true rfl) (x_ri ?_)
  cases H
  exact x_iret 58 dX8_when_58 .int rfl rfl (Nat.le_of_ble_eq_true rfl) (Nat.le_of_ble_eq_true rfl) ⟨rfl, rfl⟩

def f_X8_when_137 (κ73 : Nat → Int32 → Int32 → Int32 → Int32 → Int32 → Int32 → XM → Option (Int32 × XM)) (v0 : Nat) (v1 : Int32) (v2 : Int32) (v3 : Int32) (v4 : Int32) (v5 : Int32) (v6 : Int32) (M : XM) : Option (Int32 × XM) :=
  κ73 v0 v1 v2 v3 v4 v5 (v6 + (1 : Int32)) M
set_option maxRecDepth 20000 in
set_option maxHeartbeats 4000000 in
theorem t_X8_when_137 (l : Launch) {κ73 : Nat → Int32 → Int32 → Int32 → Int32 → Int32 → Int32 → XM → Option (Int32 × XM)} {v0 : Nat} {v1 : Int32} {v2 : Int32} {v3 : Int32} {v4 : Int32} {v5 : Int32} {v6 : Int32} {M : XM} {q : Int32 × XM} (hκ73 : ∀ (v0 : Nat) (v1 : Int32) (v2 : Int32) (v3 : Int32) (v4 : Int32) (v5 : Int32) (v6 : Int32) (M : XM), κ73 v0 v1 v2 v3 v4 v5 v6 M = some q → AW l m_X8_when 3 0 0 (x_Ri q) 0 0 73 [some (.ref v0), some (.int v1), some (.int v2), some (.int v3), some (.int v4), some (.int v5), some (.int v6), none, none] [] M) (H : f_X8_when_137 κ73 v0 v1 v2 v3 v4 v5 v6 M = some q) : AW l m_X8_when 3 0 0 (x_Ri q) 0 0 137 [some (.ref v0), some (.int v1), some (.int v2), some (.int v3), some (.int v4), some (.int v5), some (.int v6), none, none] [] M := by
  unfold f_X8_when_137 at H
  refine x_iinc 137 6 (v6 + (1 : Int32)) [some (.ref v0), some (.int v1), some (.int v2), some (.int v3), some (.int v4), some (.int v5), some (.int (v6 + (1 : Int32))), none, none] dX8_when_137 rfl (congrArg (fun z : Int32 => v6 + z) (show Int32.ofInt (1) = (1 : Int32) by decide)) rfl (Nat.le_of_ble_eq_true rfl) rfl ?_
  refine x_goto 140 73 dX8_when_140 (by decide) ?_
  exact hκ73 _ _ _ _ _ _ _ _ H

def f_X8_when_119 (κ73 : Nat → Int32 → Int32 → Int32 → Int32 → Int32 → Int32 → XM → Option (Int32 × XM)) (v0 : Nat) (v1 : Int32) (v2 : Int32) (v3 : Int32) (v4 : Int32) (v5 : Int32) (v6 : Int32) (v7 : Int32) (s0 : Int32) (M : XM) : Option (Int32 × XM) :=
  if s0 = 0 then (f_X8_when_137 κ73 v0 v1 v2 v3 v4 v5 v6 M) else (f_X8_when_137 κ73 v0 v1 v2 v3 v6 v7 v6 M)
set_option maxRecDepth 20000 in
set_option maxHeartbeats 4000000 in
theorem t_X8_when_119 (l : Launch) {κ73 : Nat → Int32 → Int32 → Int32 → Int32 → Int32 → Int32 → XM → Option (Int32 × XM)} {v0 : Nat} {v1 : Int32} {v2 : Int32} {v3 : Int32} {v4 : Int32} {v5 : Int32} {v6 : Int32} {v7 : Int32} {s0 : Int32} {M : XM} {q : Int32 × XM} (hκ73 : ∀ (v0 : Nat) (v1 : Int32) (v2 : Int32) (v3 : Int32) (v4 : Int32) (v5 : Int32) (v6 : Int32) (M : XM), κ73 v0 v1 v2 v3 v4 v5 v6 M = some q → AW l m_X8_when 3 0 0 (x_Ri q) 0 0 73 [some (.ref v0), some (.int v1), some (.int v2), some (.int v3), some (.int v4), some (.int v5), some (.int v6), none, none] [] M) (H : f_X8_when_119 κ73 v0 v1 v2 v3 v4 v5 v6 v7 s0 M = some q) : AW l m_X8_when 3 0 0 (x_Ri q) 0 0 119 [some (.ref v0), some (.int v1), some (.int v2), some (.int v3), some (.int v4), some (.int v5), some (.int v6), some (.int v7), none] [(.int s0)] M := by
  unfold f_X8_when_119 at H
  refine x_istore 119 8 [some (.ref v0), some (.int v1), some (.int v2), some (.int v3), some (.int v4), some (.int v5), some (.int v6), some (.int v7), some (.int s0)] dX8_when_119 rfl (Nat.le_of_ble_eq_true rfl) rfl ?_
  refine x_iload 121 8 dX8_when_121 rfl ?_
  refine x_if_ne 123 129 dX8_when_123 (by decide) (fun c39 => ?_) (fun c39 => ?_)
  · replace H := x_ifn c39 H
    refine x_iload 129 6 dX8_when_129 rfl ?_
    refine x_istore 131 4 [some (.ref v0), some (.int v1), some (.int v2), some (.int v3), some (.int v6), some (.int v5), some (.int v6), some (.int v7), some (.int s0)] dX8_when_131 rfl (Nat.le_of_ble_eq_true rfl) rfl ?_
    refine x_iload 133 7 dX8_when_133 rfl ?_
    refine x_istore 135 5 [some (.ref v0), some (.int v1), some (.int v2), some (.int v3), some (.int v6), some (.int v7), some (.int v6), some (.int v7), some (.int s0)] dX8_when_135 rfl (Nat.le_of_ble_eq_true rfl) rfl ?_
    exact x_wk (le_s (le_s (le_s (le_s (le_s (le_s (le_s (le_n (le_n le_0))))))))) (t_X8_when_137 l hκ73 H)
  · replace H := x_ifp c39 H
    refine x_goto 126 137 dX8_when_126 (by decide) ?_
    exact x_wk (le_s (le_s (le_s (le_s (le_s (le_s (le_s (le_n (le_n le_0))))))))) (t_X8_when_137 l hκ73 H)

def f_X8_when_c83 (κ73 : Nat → Int32 → Int32 → Int32 → Int32 → Int32 → Int32 → XM → Option (Int32 × XM)) (v0 : Nat) (v1 : Int32) (v2 : Int32) (v3 : Int32) (v4 : Int32) (v5 : Int32) (v6 : Int32) (s0 : Int32) (M : XM) : Option (Int32 × XM) :=
  if v3 = 0 then (if v5 < s0 then (f_X8_when_119 κ73 v0 v1 v2 v3 v4 v5 v6 s0 (0 : Int32) M) else (f_X8_when_119 κ73 v0 v1 v2 v3 v4 v5 v6 s0 (1 : Int32) M)) else (if s0 ≤ v5 then (f_X8_when_119 κ73 v0 v1 v2 v3 v4 v5 v6 s0 (0 : Int32) M) else (f_X8_when_119 κ73 v0 v1 v2 v3 v4 v5 v6 s0 (1 : Int32) M))
set_option maxRecDepth 20000 in
set_option maxHeartbeats 4000000 in
theorem t_X8_when_c83 (l : Launch) {κ73 : Nat → Int32 → Int32 → Int32 → Int32 → Int32 → Int32 → XM → Option (Int32 × XM)} {v0 : Nat} {v1 : Int32} {v2 : Int32} {v3 : Int32} {v4 : Int32} {v5 : Int32} {v6 : Int32} {s0 : Int32} {M : XM} {q : Int32 × XM} (hκ73 : ∀ (v0 : Nat) (v1 : Int32) (v2 : Int32) (v3 : Int32) (v4 : Int32) (v5 : Int32) (v6 : Int32) (M : XM), κ73 v0 v1 v2 v3 v4 v5 v6 M = some q → AW l m_X8_when 3 0 0 (x_Ri q) 0 0 73 [some (.ref v0), some (.int v1), some (.int v2), some (.int v3), some (.int v4), some (.int v5), some (.int v6), none, none] [] M) (H : f_X8_when_c83 κ73 v0 v1 v2 v3 v4 v5 v6 s0 M = some q) : AW l m_X8_when 3 0 0 (x_Ri q) 0 0 86 [some (.ref v0), some (.int v1), some (.int v2), some (.int v3), some (.int v4), some (.int v5), some (.int v6), none, none] [(.int s0)] M := by
  unfold f_X8_when_c83 at H
  refine x_istore 86 7 [some (.ref v0), some (.int v1), some (.int v2), some (.int v3), some (.int v4), some (.int v5), some (.int v6), some (.int s0), none] dX8_when_86 rfl (Nat.le_of_ble_eq_true rfl) rfl ?_
  refine x_iload_n 88 3 dX8_when_88 rfl rfl ?_
  refine x_if_ne 89 107 dX8_when_89 (by decide) (fun c37 => ?_) (fun c37 => ?_)
  · replace H := x_ifn c37 H
    refine x_iload 107 7 dX8_when_107 rfl ?_
    refine x_iload 109 5 dX8_when_109 rfl ?_
    refine x_icmp_le 111 118 dX8_when_111 (by decide) (fun c40 => ?_) (fun c40 => ?_)
    · replace H := x_ifp c40 H
      refine x_iconst 118 (0 : Int32) dX8_when_118 (by decide) ?_
      exact t_X8_when_119 l hκ73 H
    · replace H := x_ifn c40 H
      refine x_iconst 114 (1 : Int32) dX8_when_114 (by decide) ?_
      refine x_goto 115 119 dX8_when_115 (by decide) ?_
      exact t_X8_when_119 l hκ73 H
  · replace H := x_ifp c37 H
    refine x_iload 92 7 dX8_when_92 rfl ?_
    refine x_iload 94 5 dX8_when_94 rfl ?_
    refine x_icmp_gt 96 103 dX8_when_96 (by decide) (fun c38 => ?_) (fun c38 => ?_)
    · replace H := x_ifp c38 H
      refine x_iconst 103 (0 : Int32) dX8_when_103 (by decide) ?_
      refine x_goto 104 119 dX8_when_104 (by decide) ?_
      exact t_X8_when_119 l hκ73 H
    · replace H := x_ifn c38 H
      refine x_iconst 99 (1 : Int32) dX8_when_99 (by decide) ?_
      refine x_goto 100 119 dX8_when_100 (by decide) ?_
      exact t_X8_when_119 l hκ73 H

def bd_X8_when_73 (κ73 : Nat → Int32 → Int32 → Int32 → Int32 → Int32 → Int32 → XM → Option (Int32 × XM)) (v0 : Nat) (v1 : Int32) (v2 : Int32) (v3 : Int32) (v4 : Int32) (v5 : Int32) (v6 : Int32) (M : XM) : Option (Int32 × XM) :=
  if v2 < v6 then (some (v4, M)) else (if x_tag M v0 = 8 + 10 then (x_bd (f_X8_throughWithBreak v0 v1 v6 M) (f_X8_when_c83 κ73 v0 v1 v2 v3 v4 v5 v6)) else none)
set_option maxRecDepth 20000 in
set_option maxHeartbeats 4000000 in
theorem tb_X8_when_73 (l : Launch) {κ73 : Nat → Int32 → Int32 → Int32 → Int32 → Int32 → Int32 → XM → Option (Int32 × XM)} {v0 : Nat} {v1 : Int32} {v2 : Int32} {v3 : Int32} {v4 : Int32} {v5 : Int32} {v6 : Int32} {M : XM} {q : Int32 × XM} (hκ73 : ∀ (v0 : Nat) (v1 : Int32) (v2 : Int32) (v3 : Int32) (v4 : Int32) (v5 : Int32) (v6 : Int32) (M : XM), κ73 v0 v1 v2 v3 v4 v5 v6 M = some q → AW l m_X8_when 3 0 0 (x_Ri q) 0 0 73 [some (.ref v0), some (.int v1), some (.int v2), some (.int v3), some (.int v4), some (.int v5), some (.int v6), none, none] [] M) (H : bd_X8_when_73 κ73 v0 v1 v2 v3 v4 v5 v6 M = some q) : AW l m_X8_when 3 0 0 (x_Ri q) 0 0 73 [some (.ref v0), some (.int v1), some (.int v2), some (.int v3), some (.int v4), some (.int v5), some (.int v6), none, none] [] M := by
  unfold bd_X8_when_73 at H
  refine x_iload 73 6 dX8_when_73 rfl ?_
  refine x_iload_n 75 2 dX8_when_75 rfl rfl ?_
  refine x_icmp_gt 76 143 dX8_when_76 (by decide) (fun c32 => ?_) (fun c32 => ?_)
  · replace H := x_ifp c32 H
    refine x_iload 143 4 dX8_when_143 rfl ?_
    cases H
    exact x_iret 145 dX8_when_145 .int rfl rfl (Nat.le_of_ble_eq_true rfl) (Nat.le_of_ble_eq_true rfl) ⟨rfl, rfl⟩
  · replace H := x_ifn c32 H
    refine x_aload_n 79 0 dX8_when_79 rfl rfl ?_
    refine x_iload_n 80 1 dX8_when_80 rfl rfl ?_
    refine x_iload 81 6 dX8_when_81 rfl ?_
    obtain ⟨h33, H⟩ := x_ckp H
    obtain ⟨r35, M34, e36, H⟩ := x_bd_of H
    refine x_callV 83 258 8 [(.int v1), (.int v6)] [] dX8_when_83 (ct_X8_throughWithBreak l e36) lk_832 lk_834 lk_23 (by decide) h33 lk_85 lk_835 ⟨cn_X8_throughWithBreak, (by decide), by decide⟩ rfl (Nat.le_of_ble_eq_true rfl) (Nat.le_of_ble_eq_true rfl) (Nat.le_of_ble_eq_true rfl) (x_ri ?_)
    exact t_X8_when_c83 l hκ73 H

def lp_X8_when_73 (n : Nat) : Nat → Int32 → Int32 → Int32 → Int32 → Int32 → Int32 → XM → Option (Int32 × XM) := x_rec (fun _ _ _ _ _ _ _ _ => none) (bd_X8_when_73) n
theorem t_X8_when_73 (l : Launch) {q : Int32 × XM} : ∀ (n : Nat) (v0 : Nat) (v1 : Int32) (v2 : Int32) (v3 : Int32) (v4 : Int32) (v5 : Int32) (v6 : Int32) (M : XM), lp_X8_when_73 n v0 v1 v2 v3 v4 v5 v6 M = some q → AW l m_X8_when 3 0 0 (x_Ri q) 0 0 73 [some (.ref v0), some (.int v1), some (.int v2), some (.int v3), some (.int v4), some (.int v5), some (.int v6), none, none] [] M := by
  intro n
  induction n with
  | zero => intro v0 v1 v2 v3 v4 v5 v6 M H; cases H
  | succ n ih => intro v0 v1 v2 v3 v4 v5 v6 M H; exact tb_X8_when_73 l ih H
def f_X8_when_c65 (v0 : Nat) (v1 : Int32) (v2 : Int32) (v3 : Int32) (v4 : Int32) (s0 : Int32) (M : XM) : Option (Int32 × XM) :=
  lp_X8_when_73 x_fuel v0 v1 v2 v3 v4 s0 (2 : Int32) M
set_option maxRecDepth 20000 in
set_option maxHeartbeats 4000000 in
theorem t_X8_when_c65 (l : Launch) {v0 : Nat} {v1 : Int32} {v2 : Int32} {v3 : Int32} {v4 : Int32} {s0 : Int32} {M : XM} {q : Int32 × XM} (H : f_X8_when_c65 v0 v1 v2 v3 v4 s0 M = some q) : AW l m_X8_when 3 0 0 (x_Ri q) 0 0 68 [some (.ref v0), some (.int v1), some (.int v2), some (.int v3), some (.int v4), none, none, none, none] [(.int s0)] M := by
  unfold f_X8_when_c65 at H
  refine x_istore 68 5 [some (.ref v0), some (.int v1), some (.int v2), some (.int v3), some (.int v4), some (.int s0), none, none, none] dX8_when_68 rfl (Nat.le_of_ble_eq_true rfl) rfl ?_
  refine x_iconst 70 (2 : Int32) dX8_when_70 (by decide) ?_
  refine x_istore 71 6 [some (.ref v0), some (.int v1), some (.int v2), some (.int v3), some (.int v4), some (.int s0), some (.int (2 : Int32)), none, none] dX8_when_71 rfl (Nat.le_of_ble_eq_true rfl) rfl ?_
  exact t_X8_when_73 l _ _ _ _ _ _ _ _ _ H

def f_X8_when_c46 (v0 : Nat) (v1 : Int32) (v2 : Int32) (v3 : Int32) (s0 : Int32) (M : XM) : Option (Int32 × XM) :=
  if s0 = 0 then (if x_tag M v0 = 8 + 10 then (x_bd (f_X8_throughWithBreak v0 v1 (1 : Int32) M) (f_X8_when_c65 v0 v1 v2 v3 (1 : Int32))) else none) else (f_X8_when_52 v0 M)
set_option maxRecDepth 20000 in
set_option maxHeartbeats 4000000 in
theorem t_X8_when_c46 (l : Launch) {v0 : Nat} {v1 : Int32} {v2 : Int32} {v3 : Int32} {s0 : Int32} {M : XM} {q : Int32 × XM} (H : f_X8_when_c46 v0 v1 v2 v3 s0 M = some q) : AW l m_X8_when 3 0 0 (x_Ri q) 0 0 49 [some (.ref v0), some (.int v1), some (.int v2), some (.int v3), none, none, none, none, none] [(.int s0)] M := by
  unfold f_X8_when_c46 at H
  refine x_if_eq 49 59 dX8_when_49 (by decide) (fun c27 => ?_) (fun c27 => ?_)
  · replace H := x_ifp c27 H
    refine x_iconst 59 (1 : Int32) dX8_when_59 (by decide) ?_
    refine x_istore 60 4 [some (.ref v0), some (.int v1), some (.int v2), some (.int v3), some (.int (1 : Int32)), none, none, none, none] dX8_when_60 rfl (Nat.le_of_ble_eq_true rfl) rfl ?_
    refine x_aload_n 62 0 dX8_when_62 rfl rfl ?_
    refine x_iload_n 63 1 dX8_when_63 rfl rfl ?_
    refine x_iconst 64 (1 : Int32) dX8_when_64 (by decide) ?_
    obtain ⟨h28, H⟩ := x_ckp H
    obtain ⟨r30, M29, e31, H⟩ := x_bd_of H
    refine x_callV 65 258 8 [(.int v1), (.int (1 : Int32))] [] dX8_when_65 (ct_X8_throughWithBreak l e31) lk_832 lk_834 lk_23 (by decide) h28 lk_85 lk_835 ⟨cn_X8_throughWithBreak, (by decide), by decide⟩ rfl (Nat.le_of_ble_eq_true rfl) (Nat.le_of_ble_eq_true rfl) (Nat.le_of_ble_eq_true rfl) (x_ri ?_)
    exact t_X8_when_c65 l H
  · replace H := x_ifn c27 H
    exact x_wk (le_s (le_n (le_n (le_n (le_s (le_s (le_s (le_s (le_s le_0))))))))) (t_X8_when_52 l H)

def f_X8_when_c2 (v0 : Nat) (v1 : Int32) (v2 : Int32) (v3 : Int32) (s0 : Int32) (M : XM) : Option (Int32 × XM) :=
  if s0 = 0 then (if x_tag M v0 = 8 + 10 then (x_bd (f_X8_refuse v0 (-1 : Int32) M) (fun r8 M7 => some (r8, M7))) else none) else (if v3 < 0 then (f_X8_when_23 v0 M) else (if v3 ≤ (1 : Int32) then (if v2 < (1 : Int32) then (f_X8_when_52 v0 M) else (if (100 : Int32) < v2 then (f_X8_when_52 v0 M) else (if x_tag M v0 = 8 + 10 then (if x_tag M (x_r M v0 0) = 4 + 10 then (x_bd (f_X4_isThrough (x_r M v0 0) v1 M) (f_X8_when_c46 v0 v1 v2 v3)) else none) else none))) else (f_X8_when_23 v0 M)))
set_option maxRecDepth 20000 in
set_option maxHeartbeats 4000000 in
theorem t_X8_when_c2 (l : Launch) {v0 : Nat} {v1 : Int32} {v2 : Int32} {v3 : Int32} {s0 : Int32} {M : XM} {q : Int32 × XM} (H : f_X8_when_c2 v0 v1 v2 v3 s0 M = some q) : AW l m_X8_when 3 0 0 (x_Ri q) 0 0 5 [some (.ref v0), some (.int v1), some (.int v2), some (.int v3), none, none, none, none, none] [(.int s0)] M := by
  unfold f_X8_when_c2 at H
  refine x_if_ne 5 14 dX8_when_5 (by decide) (fun c5 => ?_) (fun c5 => ?_)
  · replace H := x_ifn c5 H
    refine x_iload_n 14 3 dX8_when_14 rfl rfl ?_
    refine x_if_lt 15 23 dX8_when_15 (by decide) (fun c10 => ?_) (fun c10 => ?_)
    · replace H := x_ifp c10 H
      exact x_wk (le_s (le_n (le_n (le_n (le_s (le_s (le_s (le_s (le_s le_0))))))))) (t_X8_when_23 l H)
    · replace H := x_ifn c10 H
      refine x_iload_n 18 3 dX8_when_18 rfl rfl ?_
      refine x_iconst 19 (1 : Int32) dX8_when_19 (by decide) ?_
      refine x_icmp_le 20 30 dX8_when_20 (by decide) (fun c15 => ?_) (fun c15 => ?_)
      · replace H := x_ifp c15 H
        refine x_iload_n 30 2 dX8_when_30 rfl rfl ?_
        refine x_iconst 31 (1 : Int32) dX8_when_31 (by decide) ?_
        refine x_icmp_lt 32 52 dX8_when_32 (by decide) (fun c16 => ?_) (fun c16 => ?_)
        · replace H := x_ifp c16 H
          exact x_wk (le_s (le_n (le_n (le_n (le_s (le_s (le_s (le_s (le_s le_0))))))))) (t_X8_when_52 l H)
        · replace H := x_ifn c16 H
          refine x_iload_n 35 2 dX8_when_35 rfl rfl ?_
          refine x_bipush 36 (100 : Int32) dX8_when_36 (by decide) ?_
          refine x_icmp_gt 38 52 dX8_when_38 (by decide) (fun c21 => ?_) (fun c21 => ?_)
          · replace H := x_ifp c21 H
            exact x_wk (le_s (le_n (le_n (le_n (le_s (le_s (le_s (le_s (le_s le_0))))))))) (t_X8_when_52 l H)
          · replace H := x_ifn c21 H
            refine x_aload_n 41 0 dX8_when_41 rfl rfl ?_
            obtain ⟨h22, H⟩ := x_ckp H
            refine x_getf 42 10 8 0 (.ref (x_r M v0 0)) dX8_when_42 lk_360 (by decide) (by decide) rfl (fun _ => rfl) h22 ?_
            refine x_iload_n 45 1 dX8_when_45 rfl rfl ?_
            obtain ⟨h23, H⟩ := x_ckp H
            obtain ⟨r25, M24, e26, H⟩ := x_bd_of H
            refine x_callV 46 207 4 [(.int v1)] [] dX8_when_46 (ct_X4_isThrough l e26) lk_732 lk_698 lk_699 (by decide) h23 lk_86 lk_700 ⟨cn_X4_isThrough, (by decide), by decide⟩ rfl (Nat.le_of_ble_eq_true rfl) (Nat.le_of_ble_eq_true rfl) (Nat.le_of_ble_eq_true rfl) (x_ri ?_)
            exact t_X8_when_c46 l H
      · replace H := x_ifn c15 H
        exact x_wk (le_s (le_n (le_n (le_n (le_s (le_s (le_s (le_s (le_s le_0))))))))) (t_X8_when_23 l H)
  · replace H := x_ifp c5 H
    refine x_aload_n 8 0 dX8_when_8 rfl rfl ?_
    refine x_iconst 9 (-1 : Int32) dX8_when_9 (by decide) ?_
    obtain ⟨h6, H⟩ := x_ckp H
    obtain ⟨r8, M7, e9, H⟩ := x_bd_of H
    refine x_callV 10 86 8 [(.int (-1 : Int32))] [] dX8_when_10 (ct_X8_refuse l e9) lk_410 lk_412 lk_0 (by decide) h6 lk_85 lk_413 ⟨cn_X8_refuse, (by decide), by decide⟩ rfl (Nat.le_of_ble_eq_true rfl) (Nat.le_of_ble_eq_true rfl) (Nat.le_of_ble_eq_true rfl) (x_ri ?_)
    cases H
    exact x_iret 13 dX8_when_13 .int rfl rfl (Nat.le_of_ble_eq_true rfl) (Nat.le_of_ble_eq_true rfl) ⟨rfl, rfl⟩

def f_X8_when (v0 : Nat) (v1 : Int32) (v2 : Int32) (v3 : Int32) (M : XM) : Option (Int32 × XM) :=
  if x_tag M v0 = 8 + 10 then (x_bd (f_X8_isCounter v0 v1 M) (f_X8_when_c2 v0 v1 v2 v3)) else none
set_option maxRecDepth 20000 in
set_option maxHeartbeats 4000000 in
theorem t_X8_when (l : Launch) {v0 : Nat} {v1 : Int32} {v2 : Int32} {v3 : Int32} {M : XM} {q : Int32 × XM} (H : f_X8_when v0 v1 v2 v3 M = some q) : AW l m_X8_when 3 0 0 (x_Ri q) 0 0 0 [some (.ref v0), some (.int v1), some (.int v2), some (.int v3), none, none, none, none, none] [] M := by
  unfold f_X8_when at H
  refine x_aload_n 0 0 dX8_when_0 rfl rfl ?_
  refine x_iload_n 1 1 dX8_when_1 rfl rfl ?_
  obtain ⟨h1, H⟩ := x_ckp H
  obtain ⟨r3, M2, e4, H⟩ := x_bd_of H
  refine x_callV 2 123 8 [(.int v1)] [] dX8_when_2 (ct_X8_isCounter l e4) lk_478 lk_480 lk_3 (by decide) h1 lk_85 lk_481 ⟨cn_X8_isCounter, (by decide), by decide⟩ rfl (Nat.le_of_ble_eq_true rfl) (Nat.le_of_ble_eq_true rfl) (Nat.le_of_ble_eq_true rfl) (x_ri ?_)
  exact t_X8_when_c2 l H

theorem ct_X8_when (l : Launch) {v0 : Nat} {v1 : Int32} {v2 : Int32} {v3 : Int32} {M : XM} {q : Int32 × XM} (H : f_X8_when v0 v1 v2 v3 M = some q) : Ct l m_X8_when 3 0 0 [(.ref v0), (.int v1), (.int v2), (.int v3)] M (x_Ri q) := x_met l m_X8_when 3 0 0 [(.ref v0), (.int v1), (.int v2), (.int v3)] M (x_Ri q) _ rfl rfl (Nat.le_of_ble_eq_true rfl) (t_X8_when l H)
theorem lk_843 : Cond.code yX3_most cX3_most 8 (some .int) ∈ x_TB := x_tb (k := 843) (by decide +kernel) rfl
theorem lk_840 : Cond.methodLink RX8 261 yX3_most ∈ x_TB := x_tb (k := 840) (by decide +kernel) rfl
theorem lk_842 : Cond.selects RX3 yX3_most yX3_most ∈ x_TB := x_tb (k := 842) (by decide +kernel) rfl
theorem lk_841 : Cond.instanceMethod yX3_most ∈ x_TB := x_tb (k := 841) (by decide +kernel) rfl
abbrev m_X8_longest : XU := (yX8_longest, cX8_longest, 5, (some .int))
theorem cn_X8_longest : m_X8_longest.1.cls ≠ "java/lang/invoke/MethodHandle" ∧ m_X8_longest.1.cls ≠ "java/lang/invoke/VarHandle" ∧ (parseMethodDescriptor m_X8_longest.1.desc).map (fun q => q.parameters.length) = some 2 := by decide +kernel
def f_X8_longest_c53 (s0 : Int32) (M : XM) : Option (Int32 × XM) :=
  if s0 ≤ (400 : Int32) then (some (s0, M)) else (some ((-1 : Int32), M))
set_option maxRecDepth 20000 in
set_option maxHeartbeats 4000000 in
theorem t_X8_longest_c53 (l : Launch) {s0 : Int32} {M : XM} {q : Int32 × XM} (H : f_X8_longest_c53 s0 M = some q) : AW l m_X8_longest 3 0 0 (x_Ri q) 0 0 56 [none, none, none, none, none] [(.int s0)] M := by
  unfold f_X8_longest_c53 at H
  refine x_istore 56 4 [none, none, none, none, some (.int s0)] dX8_longest_56 rfl (Nat.le_of_ble_eq_true rfl) rfl ?_
  refine x_iload 58 4 dX8_longest_58 rfl ?_
  refine x_sipush 60 (400 : Int32) dX8_longest_60 (by decide) ?_
  refine x_icmp_le 63 70 dX8_longest_63 (by decide) (fun c14 => ?_) (fun c14 => ?_)
  · replace H := x_ifp c14 H
    refine x_iload 70 4 dX8_longest_70 rfl ?_
    cases H
    exact x_iret 72 dX8_longest_72 .int rfl rfl (Nat.le_of_ble_eq_true rfl) (Nat.le_of_ble_eq_true rfl) ⟨rfl, rfl⟩
  · replace H := x_ifn c14 H
    refine x_iconst 66 (-1 : Int32) dX8_longest_66 (by decide) ?_
    refine x_goto 67 72 dX8_longest_67 (by decide) ?_
    cases H
    exact x_iret 72 dX8_longest_72 .int rfl rfl (Nat.le_of_ble_eq_true rfl) (Nat.le_of_ble_eq_true rfl) ⟨rfl, rfl⟩

def f_X8_longest_c36 (s0 : Int32) (M : XM) : Option (Int32 × XM) :=
  some ((s0 - (10 : Int32)), M)
set_option maxRecDepth 20000 in
set_option maxHeartbeats 4000000 in
theorem t_X8_longest_c36 (l : Launch) {s0 : Int32} {M : XM} {q : Int32 × XM} (H : f_X8_longest_c36 s0 M = some q) : AW l m_X8_longest 3 0 0 (x_Ri q) 0 0 39 [none, none, none, none, none] [(.int s0)] M := by
  unfold f_X8_longest_c36 at H
  refine x_bipush 39 (10 : Int32) dX8_longest_39 (by decide) ?_
  refine x_isub 41 dX8_longest_41 ?_
  cases H
  exact x_iret 42 dX8_longest_42 .int rfl rfl (Nat.le_of_ble_eq_true rfl) (Nat.le_of_ble_eq_true rfl) ⟨rfl, rfl⟩

def f_X8_longest_30 (v0 : Nat) (v1 : Int32) (v2 : Int32) (v3 : Int32) (M : XM) : Option (Int32 × XM) :=
  if v3 = 0 then (if x_tag M v0 = 8 + 10 then (if x_tag M (x_r M v0 9) = 3 + 10 then (x_bd (f_X3_most (x_r M v0 9) (x_r M v0 0) v1 v2 M) f_X8_longest_c53) else none) else none) else (if x_tag M v0 = 8 + 10 then (x_bd (f_X8_refuse v0 v3 M) f_X8_longest_c36) else none)
set_option maxRecDepth 20000 in
set_option maxHeartbeats 4000000 in
theorem t_X8_longest_30 (l : Launch) {v0 : Nat} {v1 : Int32} {v2 : Int32} {v3 : Int32} {M : XM} {q : Int32 × XM} (H : f_X8_longest_30 v0 v1 v2 v3 M = some q) : AW l m_X8_longest 3 0 0 (x_Ri q) 0 0 30 [some (.ref v0), some (.int v1), some (.int v2), some (.int v3), none] [] M := by
  unfold f_X8_longest_30 at H
  refine x_iload_n 30 3 dX8_longest_30 rfl rfl ?_
  refine x_if_eq 31 43 dX8_longest_31 (by decide) (fun c8 => ?_) (fun c8 => ?_)
  · replace H := x_ifp c8 H
    refine x_aload_n 43 0 dX8_longest_43 rfl rfl ?_
    obtain ⟨h9, H⟩ := x_ckp H
    refine x_getf 44 57 8 9 (.ref (x_r M v0 9)) dX8_longest_44 lk_369 (by decide) (by decide) rfl (fun _ => rfl) h9 ?_
    refine x_aload_n 47 0 dX8_longest_47 rfl rfl ?_
    refine x_getf 48 10 8 0 (.ref (x_r M v0 0)) dX8_longest_48 lk_360 (by decide) (by decide) rfl (fun _ => rfl) h9 ?_
    refine x_iload_n 51 1 dX8_longest_51 rfl rfl ?_
    refine x_iload_n 52 2 dX8_longest_52 rfl rfl ?_
    obtain ⟨h10, H⟩ := x_ckp H
    obtain ⟨r12, M11, e13, H⟩ := x_bd_of H
    refine x_callV 53 261 3 [(.ref (x_r M v0 0)), (.int v1), (.int v2)] [] dX8_longest_53 (ct_X3_most l e13) lk_840 lk_841 lk_842 (by decide) h10 lk_91 lk_843 ⟨cn_X3_most, (by decide), by decide⟩ rfl (Nat.le_of_ble_eq_true rfl) (Nat.le_of_ble_eq_true rfl) (Nat.le_of_ble_eq_true rfl) (x_ri ?_)
    exact x_wk (le_n (le_n (le_n (le_n (le_s le_0))))) (t_X8_longest_c53 l H)
  · replace H := x_ifn c8 H
    refine x_aload_n 34 0 dX8_longest_34 rfl rfl ?_
    refine x_iload_n 35 3 dX8_longest_35 rfl rfl ?_
    obtain ⟨h15, H⟩ := x_ckp H
    obtain ⟨r17, M16, e18, H⟩ := x_bd_of H
    refine x_callV 36 86 8 [(.int v3)] [] dX8_longest_36 (ct_X8_refuse l e18) lk_410 lk_412 lk_0 (by decide) h15 lk_85 lk_413 ⟨cn_X8_refuse, (by decide), by decide⟩ rfl (Nat.le_of_ble_eq_true rfl) (Nat.le_of_ble_eq_true rfl) (Nat.le_of_ble_eq_true rfl) (x_ri ?_)
    exact x_wk (le_n (le_n (le_n (le_n (le_s le_0))))) (t_X8_longest_c36 l H)

def f_X8_longest_27 (v0 : Nat) (v1 : Int32) (v2 : Int32) (M : XM) : Option (Int32 × XM) :=
  f_X8_longest_30 v0 v1 v2 (-6 : Int32) M
set_option maxRecDepth 20000 in
set_option maxHeartbeats 4000000 in
theorem t_X8_longest_27 (l : Launch) {v0 : Nat} {v1 : Int32} {v2 : Int32} {M : XM} {q : Int32 × XM} (H : f_X8_longest_27 v0 v1 v2 M = some q) : AW l m_X8_longest 3 0 0 (x_Ri q) 0 0 27 [some (.ref v0), some (.int v1), some (.int v2), none, none] [] M := by
  unfold f_X8_longest_27 at H
  refine x_bipush 27 (-6 : Int32) dX8_longest_27 (by decide) ?_
  refine x_istore_n 29 3 [some (.ref v0), some (.int v1), some (.int v2), some (.int (-6 : Int32)), none] dX8_longest_29 rfl rfl (Nat.le_of_ble_eq_true rfl) rfl ?_
  exact t_X8_longest_30 l H

def f_X8_longest_13 (v0 : Nat) (v1 : Int32) (v2 : Int32) (s0 : Int32) (M : XM) : Option (Int32 × XM) :=
  if s0 = 0 then (if v2 < 0 then (f_X8_longest_27 v0 v1 v2 M) else (if v2 ≤ (5 : Int32) then (f_X8_longest_30 v0 v1 v2 s0 M) else (f_X8_longest_27 v0 v1 v2 M))) else (f_X8_longest_30 v0 v1 v2 s0 M)
set_option maxRecDepth 20000 in
set_option maxHeartbeats 4000000 in
theorem t_X8_longest_13 (l : Launch) {v0 : Nat} {v1 : Int32} {v2 : Int32} {s0 : Int32} {M : XM} {q : Int32 × XM} (H : f_X8_longest_13 v0 v1 v2 s0 M = some q) : AW l m_X8_longest 3 0 0 (x_Ri q) 0 0 13 [some (.ref v0), some (.int v1), some (.int v2), none, none] [(.int s0)] M := by
  unfold f_X8_longest_13 at H
  refine x_istore_n 13 3 [some (.ref v0), some (.int v1), some (.int v2), some (.int s0), none] dX8_longest_13 rfl rfl (Nat.le_of_ble_eq_true rfl) rfl ?_
  refine x_iload_n 14 3 dX8_longest_14 rfl rfl ?_
  refine x_if_ne 15 30 dX8_longest_15 (by decide) (fun c6 => ?_) (fun c6 => ?_)
  · replace H := x_ifn c6 H
    exact t_X8_longest_30 l H
  · replace H := x_ifp c6 H
    refine x_iload_n 18 2 dX8_longest_18 rfl rfl ?_
    refine x_if_lt 19 27 dX8_longest_19 (by decide) (fun c7 => ?_) (fun c7 => ?_)
    · replace H := x_ifp c7 H
      exact x_wk (le_s (le_s (le_s (le_n (le_s le_0))))) (t_X8_longest_27 l H)
    · replace H := x_ifn c7 H
      refine x_iload_n 22 2 dX8_longest_22 rfl rfl ?_
      refine x_iconst 23 (5 : Int32) dX8_longest_23 (by decide) ?_
      refine x_icmp_le 24 30 dX8_longest_24 (by decide) (fun c19 => ?_) (fun c19 => ?_)
      · replace H := x_ifp c19 H
        exact t_X8_longest_30 l H
      · replace H := x_ifn c19 H
        exact x_wk (le_s (le_s (le_s (le_n (le_s le_0))))) (t_X8_longest_27 l H)

def f_X8_longest_c2 (v0 : Nat) (v1 : Int32) (v2 : Int32) (s0 : Int32) (M : XM) : Option (Int32 × XM) :=
  if s0 = 0 then (f_X8_longest_13 v0 v1 v2 (-1 : Int32) M) else (f_X8_longest_13 v0 v1 v2 (0 : Int32) M)
set_option maxRecDepth 20000 in
set_option maxHeartbeats 4000000 in
theorem t_X8_longest_c2 (l : Launch) {v0 : Nat} {v1 : Int32} {v2 : Int32} {s0 : Int32} {M : XM} {q : Int32 × XM} (H : f_X8_longest_c2 v0 v1 v2 s0 M = some q) : AW l m_X8_longest 3 0 0 (x_Ri q) 0 0 5 [some (.ref v0), some (.int v1), some (.int v2), none, none] [(.int s0)] M := by
  unfold f_X8_longest_c2 at H
  refine x_if_eq 5 12 dX8_longest_5 (by decide) (fun c5 => ?_) (fun c5 => ?_)
  · replace H := x_ifp c5 H
    refine x_iconst 12 (-1 : Int32) dX8_longest_12 (by decide) ?_
    exact t_X8_longest_13 l H
  · replace H := x_ifn c5 H
    refine x_iconst 8 (0 : Int32) dX8_longest_8 (by decide) ?_
    refine x_goto 9 13 dX8_longest_9 (by decide) ?_
    exact t_X8_longest_13 l H

def f_X8_longest (v0 : Nat) (v1 : Int32) (v2 : Int32) (M : XM) : Option (Int32 × XM) :=
  if x_tag M v0 = 8 + 10 then (x_bd (f_X8_isCounter v0 v1 M) (f_X8_longest_c2 v0 v1 v2)) else none
set_option maxRecDepth 20000 in
set_option maxHeartbeats 4000000 in
theorem t_X8_longest (l : Launch) {v0 : Nat} {v1 : Int32} {v2 : Int32} {M : XM} {q : Int32 × XM} (H : f_X8_longest v0 v1 v2 M = some q) : AW l m_X8_longest 3 0 0 (x_Ri q) 0 0 0 [some (.ref v0), some (.int v1), some (.int v2), none, none] [] M := by
  unfold f_X8_longest at H
  refine x_aload_n 0 0 dX8_longest_0 rfl rfl ?_
  refine x_iload_n 1 1 dX8_longest_1 rfl rfl ?_
  obtain ⟨h1, H⟩ := x_ckp H
  obtain ⟨r3, M2, e4, H⟩ := x_bd_of H
  refine x_callV 2 123 8 [(.int v1)] [] dX8_longest_2 (ct_X8_isCounter l e4) lk_478 lk_480 lk_3 (by decide) h1 lk_85 lk_481 ⟨cn_X8_isCounter, (by decide), by decide⟩ rfl (Nat.le_of_ble_eq_true rfl) (Nat.le_of_ble_eq_true rfl) (Nat.le_of_ble_eq_true rfl) (x_ri ?_)
  exact t_X8_longest_c2 l H

theorem ct_X8_longest (l : Launch) {v0 : Nat} {v1 : Int32} {v2 : Int32} {M : XM} {q : Int32 × XM} (H : f_X8_longest v0 v1 v2 M = some q) : Ct l m_X8_longest 3 0 0 [(.ref v0), (.int v1), (.int v2)] M (x_Ri q) := x_met l m_X8_longest 3 0 0 [(.ref v0), (.int v1), (.int v2)] M (x_Ri q) _ rfl rfl (Nat.le_of_ble_eq_true rfl) (t_X8_longest l H)
theorem lk_857 : Cond.code yX3_fewestBreaks cX3_fewestBreaks 7 (some .int) ∈ x_TB := x_tb (k := 857) (by decide +kernel) rfl
theorem lk_854 : Cond.methodLink RX8 264 yX3_fewestBreaks ∈ x_TB := x_tb (k := 854) (by decide +kernel) rfl
theorem lk_856 : Cond.selects RX3 yX3_fewestBreaks yX3_fewestBreaks ∈ x_TB := x_tb (k := 856) (by decide +kernel) rfl
theorem lk_855 : Cond.instanceMethod yX3_fewestBreaks ∈ x_TB := x_tb (k := 855) (by decide +kernel) rfl
abbrev m_X8_fits : XU := (yX8_fits, cX8_fits, 4, (some .int))
theorem cn_X8_fits : m_X8_fits.1.cls ≠ "java/lang/invoke/MethodHandle" ∧ m_X8_fits.1.cls ≠ "java/lang/invoke/VarHandle" ∧ (parseMethodDescriptor m_X8_fits.1.desc).map (fun q => q.parameters.length) = some 2 := by decide +kernel
def f_X8_fits_c37 (s0 : Int32) (M : XM) : Option (Int32 × XM) :=
  some ((s0 - (10 : Int32)), M)
set_option maxRecDepth 20000 in
set_option maxHeartbeats 4000000 in
theorem t_X8_fits_c37 (l : Launch) {s0 : Int32} {M : XM} {q : Int32 × XM} (H : f_X8_fits_c37 s0 M = some q) : AW l m_X8_fits 4 0 0 (x_Ri q) 0 0 40 [none, none, none, none] [(.int s0)] M := by
  unfold f_X8_fits_c37 at H
  refine x_bipush 40 (10 : Int32) dX8_fits_40 (by decide) ?_
  refine x_isub 42 dX8_fits_42 ?_
  cases H
  exact x_iret 43 dX8_fits_43 .int rfl rfl (Nat.le_of_ble_eq_true rfl) (Nat.le_of_ble_eq_true rfl) ⟨rfl, rfl⟩

def f_X8_fits_31 (v0 : Nat) (v1 : Int32) (v2 : Int32) (v3 : Int32) (M : XM) : Option (Int32 × XM) :=
  if v3 = 0 then (if x_tag M v0 = 8 + 10 then (if x_tag M (x_r M v0 9) = 3 + 10 then (x_bd (f_X3_fewestBreaks (x_r M v0 9) (x_r M v0 0) v1 v2 M) (fun r12 M11 => some (r12, M11))) else none) else none) else (if x_tag M v0 = 8 + 10 then (x_bd (f_X8_refuse v0 v3 M) f_X8_fits_c37) else none)
set_option maxRecDepth 20000 in
set_option maxHeartbeats 4000000 in
theorem t_X8_fits_31 (l : Launch) {v0 : Nat} {v1 : Int32} {v2 : Int32} {v3 : Int32} {M : XM} {q : Int32 × XM} (H : f_X8_fits_31 v0 v1 v2 v3 M = some q) : AW l m_X8_fits 4 0 0 (x_Ri q) 0 0 31 [some (.ref v0), some (.int v1), some (.int v2), some (.int v3)] [] M := by
  unfold f_X8_fits_31 at H
  refine x_iload_n 31 3 dX8_fits_31 rfl rfl ?_
  refine x_if_eq 32 44 dX8_fits_32 (by decide) (fun c8 => ?_) (fun c8 => ?_)
  · replace H := x_ifp c8 H
    refine x_aload_n 44 0 dX8_fits_44 rfl rfl ?_
    obtain ⟨h9, H⟩ := x_ckp H
    refine x_getf 45 57 8 9 (.ref (x_r M v0 9)) dX8_fits_45 lk_369 (by decide) (by decide) rfl (fun _ => rfl) h9 ?_
    refine x_aload_n 48 0 dX8_fits_48 rfl rfl ?_
    refine x_getf 49 10 8 0 (.ref (x_r M v0 0)) dX8_fits_49 lk_360 (by decide) (by decide) rfl (fun _ => rfl) h9 ?_
    refine x_iload_n 52 1 dX8_fits_52 rfl rfl ?_
    refine x_iload_n 53 2 dX8_fits_53 rfl rfl ?_
    obtain ⟨h10, H⟩ := x_ckp H
    obtain ⟨r12, M11, e13, H⟩ := x_bd_of H
    refine x_callV 54 264 3 [(.ref (x_r M v0 0)), (.int v1), (.int v2)] [] dX8_fits_54 (ct_X3_fewestBreaks l e13) lk_854 lk_855 lk_856 (by decide) h10 lk_91 lk_857 ⟨cn_X3_fewestBreaks, (by decide), by decide⟩ rfl (Nat.le_of_ble_eq_true rfl) (Nat.le_of_ble_eq_true rfl) (Nat.le_of_ble_eq_true rfl) (x_ri ?_)
    cases H
    exact x_iret 57 dX8_fits_57 .int rfl rfl (Nat.le_of_ble_eq_true rfl) (Nat.le_of_ble_eq_true rfl) ⟨rfl, rfl⟩
  · replace H := x_ifn c8 H
    refine x_aload_n 35 0 dX8_fits_35 rfl rfl ?_
    refine x_iload_n 36 3 dX8_fits_36 rfl rfl ?_
    obtain ⟨h14, H⟩ := x_ckp H
    obtain ⟨r16, M15, e17, H⟩ := x_bd_of H
    refine x_callV 37 86 8 [(.int v3)] [] dX8_fits_37 (ct_X8_refuse l e17) lk_410 lk_412 lk_0 (by decide) h14 lk_85 lk_413 ⟨cn_X8_refuse, (by decide), by decide⟩ rfl (Nat.le_of_ble_eq_true rfl) (Nat.le_of_ble_eq_true rfl) (Nat.le_of_ble_eq_true rfl) (x_ri ?_)
    exact x_wk (le_n (le_n (le_n (le_n le_0)))) (t_X8_fits_c37 l H)

def f_X8_fits_28 (v0 : Nat) (v1 : Int32) (v2 : Int32) (M : XM) : Option (Int32 × XM) :=
  f_X8_fits_31 v0 v1 v2 (-6 : Int32) M
set_option maxRecDepth 20000 in
set_option maxHeartbeats 4000000 in
theorem t_X8_fits_28 (l : Launch) {v0 : Nat} {v1 : Int32} {v2 : Int32} {M : XM} {q : Int32 × XM} (H : f_X8_fits_28 v0 v1 v2 M = some q) : AW l m_X8_fits 4 0 0 (x_Ri q) 0 0 28 [some (.ref v0), some (.int v1), some (.int v2), none] [] M := by
  unfold f_X8_fits_28 at H
  refine x_bipush 28 (-6 : Int32) dX8_fits_28 (by decide) ?_
  refine x_istore_n 30 3 [some (.ref v0), some (.int v1), some (.int v2), some (.int (-6 : Int32))] dX8_fits_30 rfl rfl (Nat.le_of_ble_eq_true rfl) rfl ?_
  exact t_X8_fits_31 l H

def f_X8_fits_13 (v0 : Nat) (v1 : Int32) (v2 : Int32) (s0 : Int32) (M : XM) : Option (Int32 × XM) :=
  if s0 = 0 then (if v2 < 0 then (f_X8_fits_28 v0 v1 v2 M) else (if v2 ≤ (100 : Int32) then (f_X8_fits_31 v0 v1 v2 s0 M) else (f_X8_fits_28 v0 v1 v2 M))) else (f_X8_fits_31 v0 v1 v2 s0 M)
set_option maxRecDepth 20000 in
set_option maxHeartbeats 4000000 in
theorem t_X8_fits_13 (l : Launch) {v0 : Nat} {v1 : Int32} {v2 : Int32} {s0 : Int32} {M : XM} {q : Int32 × XM} (H : f_X8_fits_13 v0 v1 v2 s0 M = some q) : AW l m_X8_fits 4 0 0 (x_Ri q) 0 0 13 [some (.ref v0), some (.int v1), some (.int v2), none] [(.int s0)] M := by
  unfold f_X8_fits_13 at H
  refine x_istore_n 13 3 [some (.ref v0), some (.int v1), some (.int v2), some (.int s0)] dX8_fits_13 rfl rfl (Nat.le_of_ble_eq_true rfl) rfl ?_
  refine x_iload_n 14 3 dX8_fits_14 rfl rfl ?_
  refine x_if_ne 15 31 dX8_fits_15 (by decide) (fun c6 => ?_) (fun c6 => ?_)
  · replace H := x_ifn c6 H
    exact t_X8_fits_31 l H
  · replace H := x_ifp c6 H
    refine x_iload_n 18 2 dX8_fits_18 rfl rfl ?_
    refine x_if_lt 19 28 dX8_fits_19 (by decide) (fun c7 => ?_) (fun c7 => ?_)
    · replace H := x_ifp c7 H
      exact x_wk (le_s (le_s (le_s (le_n le_0)))) (t_X8_fits_28 l H)
    · replace H := x_ifn c7 H
      refine x_iload_n 22 2 dX8_fits_22 rfl rfl ?_
      refine x_bipush 23 (100 : Int32) dX8_fits_23 (by decide) ?_
      refine x_icmp_le 25 31 dX8_fits_25 (by decide) (fun c18 => ?_) (fun c18 => ?_)
      · replace H := x_ifp c18 H
        exact t_X8_fits_31 l H
      · replace H := x_ifn c18 H
        exact x_wk (le_s (le_s (le_s (le_n le_0)))) (t_X8_fits_28 l H)

def f_X8_fits_c2 (v0 : Nat) (v1 : Int32) (v2 : Int32) (s0 : Int32) (M : XM) : Option (Int32 × XM) :=
  if s0 = 0 then (f_X8_fits_13 v0 v1 v2 (-1 : Int32) M) else (f_X8_fits_13 v0 v1 v2 (0 : Int32) M)
set_option maxRecDepth 20000 in
set_option maxHeartbeats 4000000 in
theorem t_X8_fits_c2 (l : Launch) {v0 : Nat} {v1 : Int32} {v2 : Int32} {s0 : Int32} {M : XM} {q : Int32 × XM} (H : f_X8_fits_c2 v0 v1 v2 s0 M = some q) : AW l m_X8_fits 4 0 0 (x_Ri q) 0 0 5 [some (.ref v0), some (.int v1), some (.int v2), none] [(.int s0)] M := by
  unfold f_X8_fits_c2 at H
  refine x_if_eq 5 12 dX8_fits_5 (by decide) (fun c5 => ?_) (fun c5 => ?_)
  · replace H := x_ifp c5 H
    refine x_iconst 12 (-1 : Int32) dX8_fits_12 (by decide) ?_
    exact t_X8_fits_13 l H
  · replace H := x_ifn c5 H
    refine x_iconst 8 (0 : Int32) dX8_fits_8 (by decide) ?_
    refine x_goto 9 13 dX8_fits_9 (by decide) ?_
    exact t_X8_fits_13 l H

def f_X8_fits (v0 : Nat) (v1 : Int32) (v2 : Int32) (M : XM) : Option (Int32 × XM) :=
  if x_tag M v0 = 8 + 10 then (x_bd (f_X8_isCounter v0 v1 M) (f_X8_fits_c2 v0 v1 v2)) else none
set_option maxRecDepth 20000 in
set_option maxHeartbeats 4000000 in
theorem t_X8_fits (l : Launch) {v0 : Nat} {v1 : Int32} {v2 : Int32} {M : XM} {q : Int32 × XM} (H : f_X8_fits v0 v1 v2 M = some q) : AW l m_X8_fits 4 0 0 (x_Ri q) 0 0 0 [some (.ref v0), some (.int v1), some (.int v2), none] [] M := by
  unfold f_X8_fits at H
  refine x_aload_n 0 0 dX8_fits_0 rfl rfl ?_
  refine x_iload_n 1 1 dX8_fits_1 rfl rfl ?_
  obtain ⟨h1, H⟩ := x_ckp H
  obtain ⟨r3, M2, e4, H⟩ := x_bd_of H
  refine x_callV 2 123 8 [(.int v1)] [] dX8_fits_2 (ct_X8_isCounter l e4) lk_478 lk_480 lk_3 (by decide) h1 lk_85 lk_481 ⟨cn_X8_isCounter, (by decide), by decide⟩ rfl (Nat.le_of_ble_eq_true rfl) (Nat.le_of_ble_eq_true rfl) (Nat.le_of_ble_eq_true rfl) (x_ri ?_)
  exact t_X8_fits_c2 l H

theorem ct_X8_fits (l : Launch) {v0 : Nat} {v1 : Int32} {v2 : Int32} {M : XM} {q : Int32 × XM} (H : f_X8_fits v0 v1 v2 M = some q) : Ct l m_X8_fits 4 0 0 [(.ref v0), (.int v1), (.int v2)] M (x_Ri q) := x_met l m_X8_fits 4 0 0 [(.ref v0), (.int v1), (.int v2)] M (x_Ri q) _ rfl rfl (Nat.le_of_ble_eq_true rfl) (t_X8_fits l H)
abbrev m_X8_saidRefusal : XU := (yX8_saidRefusal, cX8_saidRefusal, 5, (some .int))
theorem cn_X8_saidRefusal : m_X8_saidRefusal.1.cls ≠ "java/lang/invoke/MethodHandle" ∧ m_X8_saidRefusal.1.cls ≠ "java/lang/invoke/VarHandle" ∧ (parseMethodDescriptor m_X8_saidRefusal.1.desc).map (fun q => q.parameters.length) = some 3 := by decide +kernel
def f_X8_saidRefusal_18 (v3 : Int32) (s0 : Int32) (M : XM) : Option (Int32 × XM) :=
  if s0 = 0 then (if v3 ≤ (40 : Int32) then (some ((0 : Int32), M)) else (some ((-6 : Int32), M))) else (some (s0, M))
set_option maxRecDepth 20000 in
set_option maxHeartbeats 4000000 in
theorem t_X8_saidRefusal_18 (l : Launch) {v3 : Int32} {s0 : Int32} {M : XM} {q : Int32 × XM} (H : f_X8_saidRefusal_18 v3 s0 M = some q) : AW l m_X8_saidRefusal 5 0 0 (x_Ri q) 0 0 18 [none, none, none, some (.int v3), none] [(.int s0)] M := by
  unfold f_X8_saidRefusal_18 at H
  refine x_istore 18 4 [none, none, none, some (.int v3), some (.int s0)] dX8_saidRefusal_18 rfl (Nat.le_of_ble_eq_true rfl) rfl ?_
  refine x_iload 20 4 dX8_saidRefusal_20 rfl ?_
  refine x_if_eq 22 28 dX8_saidRefusal_22 (by decide) (fun c6 => ?_) (fun c6 => ?_)
  · replace H := x_ifp c6 H
    refine x_iload_n 28 3 dX8_saidRefusal_28 rfl rfl ?_
    refine x_bipush 29 (40 : Int32) dX8_saidRefusal_29 (by decide) ?_
    refine x_icmp_le 31 39 dX8_saidRefusal_31 (by decide) (fun c7 => ?_) (fun c7 => ?_)
    · replace H := x_ifp c7 H
      refine x_iconst 39 (0 : Int32) dX8_saidRefusal_39 (by decide) ?_
      cases H
      exact x_iret 40 dX8_saidRefusal_40 .int rfl rfl (Nat.le_of_ble_eq_true rfl) (Nat.le_of_ble_eq_true rfl) ⟨rfl, rfl⟩
    · replace H := x_ifn c7 H
      refine x_bipush 34 (-6 : Int32) dX8_saidRefusal_34 (by decide) ?_
      refine x_goto 36 40 dX8_saidRefusal_36 (by decide) ?_
      cases H
      exact x_iret 40 dX8_saidRefusal_40 .int rfl rfl (Nat.le_of_ble_eq_true rfl) (Nat.le_of_ble_eq_true rfl) ⟨rfl, rfl⟩
  · replace H := x_ifn c6 H
    refine x_iload 25 4 dX8_saidRefusal_25 rfl ?_
    cases H
    exact x_iret 27 dX8_saidRefusal_27 .int rfl rfl (Nat.le_of_ble_eq_true rfl) (Nat.le_of_ble_eq_true rfl) ⟨rfl, rfl⟩

def f_X8_saidRefusal_c11 (v3 : Int32) (s0 : Int32) (M : XM) : Option (Int32 × XM) :=
  f_X8_saidRefusal_18 v3 s0 M
set_option maxRecDepth 20000 in
set_option maxHeartbeats 4000000 in
theorem t_X8_saidRefusal_c11 (l : Launch) {v3 : Int32} {s0 : Int32} {M : XM} {q : Int32 × XM} (H : f_X8_saidRefusal_c11 v3 s0 M = some q) : AW l m_X8_saidRefusal 5 0 0 (x_Ri q) 0 0 14 [none, none, none, some (.int v3), none] [(.int s0)] M := by
  unfold f_X8_saidRefusal_c11 at H
  refine x_goto 14 18 dX8_saidRefusal_14 (by decide) ?_
  exact t_X8_saidRefusal_18 l H

def f_X8_saidRefusal_c2 (v0 : Nat) (v2 : Int32) (v3 : Int32) (s0 : Int32) (M : XM) : Option (Int32 × XM) :=
  if s0 = 0 then (f_X8_saidRefusal_18 v3 (-1 : Int32) M) else (if x_tag M v0 = 8 + 10 then (x_bd (f_X8_partRefusal v0 v2 v3 M) (f_X8_saidRefusal_c11 v3)) else none)
set_option maxRecDepth 20000 in
set_option maxHeartbeats 4000000 in
theorem t_X8_saidRefusal_c2 (l : Launch) {v0 : Nat} {v2 : Int32} {v3 : Int32} {s0 : Int32} {M : XM} {q : Int32 × XM} (H : f_X8_saidRefusal_c2 v0 v2 v3 s0 M = some q) : AW l m_X8_saidRefusal 5 0 0 (x_Ri q) 0 0 5 [some (.ref v0), none, some (.int v2), some (.int v3), none] [(.int s0)] M := by
  unfold f_X8_saidRefusal_c2 at H
  refine x_if_eq 5 17 dX8_saidRefusal_5 (by decide) (fun c5 => ?_) (fun c5 => ?_)
  · replace H := x_ifp c5 H
    refine x_iconst 17 (-1 : Int32) dX8_saidRefusal_17 (by decide) ?_
    exact x_wk (le_n (le_s (le_n (le_s (le_s le_0))))) (t_X8_saidRefusal_18 l H)
  · replace H := x_ifn c5 H
    refine x_aload_n 8 0 dX8_saidRefusal_8 rfl rfl ?_
    refine x_iload_n 9 2 dX8_saidRefusal_9 rfl rfl ?_
    refine x_iload_n 10 3 dX8_saidRefusal_10 rfl rfl ?_
    obtain ⟨h8, H⟩ := x_ckp H
    obtain ⟨r10, M9, e11, H⟩ := x_bd_of H
    refine x_callV 11 214 8 [(.int v2), (.int v3)] [] dX8_saidRefusal_11 (ct_X8_partRefusal l e11) lk_738 lk_740 lk_15 (by decide) h8 lk_85 lk_741 ⟨cn_X8_partRefusal, (by decide), by decide⟩ rfl (Nat.le_of_ble_eq_true rfl) (Nat.le_of_ble_eq_true rfl) (Nat.le_of_ble_eq_true rfl) (x_ri ?_)
    exact x_wk (le_n (le_s (le_n (le_s (le_s le_0))))) (t_X8_saidRefusal_c11 l H)

def f_X8_saidRefusal (v0 : Nat) (v1 : Int32) (v2 : Int32) (v3 : Int32) (M : XM) : Option (Int32 × XM) :=
  if x_tag M v0 = 8 + 10 then (x_bd (f_X8_isCounter v0 v1 M) (f_X8_saidRefusal_c2 v0 v2 v3)) else none
set_option maxRecDepth 20000 in
set_option maxHeartbeats 4000000 in
theorem t_X8_saidRefusal (l : Launch) {v0 : Nat} {v1 : Int32} {v2 : Int32} {v3 : Int32} {M : XM} {q : Int32 × XM} (H : f_X8_saidRefusal v0 v1 v2 v3 M = some q) : AW l m_X8_saidRefusal 5 0 0 (x_Ri q) 0 0 0 [some (.ref v0), some (.int v1), some (.int v2), some (.int v3), none] [] M := by
  unfold f_X8_saidRefusal at H
  refine x_aload_n 0 0 dX8_saidRefusal_0 rfl rfl ?_
  refine x_iload_n 1 1 dX8_saidRefusal_1 rfl rfl ?_
  obtain ⟨h1, H⟩ := x_ckp H
  obtain ⟨r3, M2, e4, H⟩ := x_bd_of H
  refine x_callV 2 123 8 [(.int v1)] [] dX8_saidRefusal_2 (ct_X8_isCounter l e4) lk_478 lk_480 lk_3 (by decide) h1 lk_85 lk_481 ⟨cn_X8_isCounter, (by decide), by decide⟩ rfl (Nat.le_of_ble_eq_true rfl) (Nat.le_of_ble_eq_true rfl) (Nat.le_of_ble_eq_true rfl) (x_ri ?_)
  exact x_wk (le_s (le_n (le_s (le_s (le_s le_0))))) (t_X8_saidRefusal_c2 l H)

theorem ct_X8_saidRefusal (l : Launch) {v0 : Nat} {v1 : Int32} {v2 : Int32} {v3 : Int32} {M : XM} {q : Int32 × XM} (H : f_X8_saidRefusal v0 v1 v2 v3 M = some q) : Ct l m_X8_saidRefusal 5 0 0 [(.ref v0), (.int v1), (.int v2), (.int v3)] M (x_Ri q) := x_met l m_X8_saidRefusal 5 0 0 [(.ref v0), (.int v1), (.int v2), (.int v3)] M (x_Ri q) _ rfl rfl (Nat.le_of_ble_eq_true rfl) (t_X8_saidRefusal l H)
theorem lk_873 : Cond.code yX8_saidRefusal cX8_saidRefusal 5 (some .int) ∈ x_TB := x_tb (k := 873) (by decide +kernel) rfl
theorem lk_870 : Cond.methodLink RX8 267 yX8_saidRefusal ∈ x_TB := x_tb (k := 870) (by decide +kernel) rfl
theorem lk_26 : Cond.selects RX8 yX8_saidRefusal yX8_saidRefusal ∈ x_TB := x_tb (k := 26) (by decide +kernel) rfl
theorem lk_872 : Cond.instanceMethod yX8_saidRefusal ∈ x_TB := x_tb (k := 872) (by decide +kernel) rfl
theorem lk_878 : Cond.methodLink RX8 353 yX2_becomeLike ∈ x_TB := x_tb (k := 878) (by decide +kernel) rfl
theorem lk_879 : Cond.methodLink RX8 356 yX2_hear ∈ x_TB := x_tb (k := 879) (by decide +kernel) rfl
abbrev m_X8_firstWrong : XU := (yX8_firstWrong, cX8_firstWrong, 6, (some .int))
theorem cn_X8_firstWrong : m_X8_firstWrong.1.cls ≠ "java/lang/invoke/MethodHandle" ∧ m_X8_firstWrong.1.cls ≠ "java/lang/invoke/VarHandle" ∧ (parseMethodDescriptor m_X8_firstWrong.1.desc).map (fun q => q.parameters.length) = some 3 := by decide +kernel
def f_X8_firstWrong_139 (κ19 : Nat → Int32 → Int32 → Int32 → XM → Option (Int32 × XM)) (v0 : Nat) (v2 : Int32) (v3 : Int32) (v4 : Int32) (M : XM) : Option (Int32 × XM) :=
  κ19 v0 v2 v3 (v4 + (1 : Int32)) M
set_option maxRecDepth 20000 in
set_option maxHeartbeats 4000000 in
theorem t_X8_firstWrong_139 (l : Launch) {κ19 : Nat → Int32 → Int32 → Int32 → XM → Option (Int32 × XM)} {v0 : Nat} {v2 : Int32} {v3 : Int32} {v4 : Int32} {M : XM} {q : Int32 × XM} (hκ19 : ∀ (v0 : Nat) (v2 : Int32) (v3 : Int32) (v4 : Int32) (M : XM), κ19 v0 v2 v3 v4 M = some q → AW l m_X8_firstWrong 4 0 0 (x_Ri q) 0 0 19 [some (.ref v0), none, some (.int v2), some (.int v3), some (.int v4), none] [] M) (H : f_X8_firstWrong_139 κ19 v0 v2 v3 v4 M = some q) : AW l m_X8_firstWrong 4 0 0 (x_Ri q) 0 0 139 [some (.ref v0), none, some (.int v2), some (.int v3), some (.int v4), none] [] M := by
  unfold f_X8_firstWrong_139 at H
  refine x_iinc 139 4 (v4 + (1 : Int32)) [some (.ref v0), none, some (.int v2), some (.int v3), some (.int (v4 + (1 : Int32))), none] dX8_firstWrong_139 rfl (congrArg (fun z : Int32 => v4 + z) (show Int32.ofInt (1) = (1 : Int32) by decide)) rfl (Nat.le_of_ble_eq_true rfl) rfl ?_
  refine x_goto 142 19 dX8_firstWrong_142 (by decide) ?_
  exact hκ19 _ _ _ _ _ H

def f_X8_firstWrong_c130 (κ19 : Nat → Int32 → Int32 → Int32 → XM → Option (Int32 × XM)) (v0 : Nat) (v2 : Int32) (v3 : Int32) (v4 : Int32) (M : XM) : Option (Int32 × XM) :=
  f_X8_firstWrong_139 κ19 v0 v2 v3 v4 M
set_option maxRecDepth 20000 in
set_option maxHeartbeats 4000000 in
theorem t_X8_firstWrong_c130 (l : Launch) {κ19 : Nat → Int32 → Int32 → Int32 → XM → Option (Int32 × XM)} {v0 : Nat} {v2 : Int32} {v3 : Int32} {v4 : Int32} {M : XM} {q : Int32 × XM} (hκ19 : ∀ (v0 : Nat) (v2 : Int32) (v3 : Int32) (v4 : Int32) (M : XM), κ19 v0 v2 v3 v4 M = some q → AW l m_X8_firstWrong 4 0 0 (x_Ri q) 0 0 19 [some (.ref v0), none, some (.int v2), some (.int v3), some (.int v4), none] [] M) (H : f_X8_firstWrong_c130 κ19 v0 v2 v3 v4 M = some q) : AW l m_X8_firstWrong 4 0 0 (x_Ri q) 0 0 133 [some (.ref v0), none, some (.int v2), some (.int v3), some (.int v4), none] [] M := by
  unfold f_X8_firstWrong_c130 at H
  refine x_goto 133 139 dX8_firstWrong_133 (by decide) ?_
  exact t_X8_firstWrong_139 l hκ19 H

def f_X8_firstWrong_c113 (κ19 : Nat → Int32 → Int32 → Int32 → XM → Option (Int32 × XM)) (v0 : Nat) (v2 : Int32) (v3 : Int32) (v4 : Int32) (s1 : Int32) (s0 : Int32) (M : XM) : Option (Int32 × XM) :=
  if s1 = s0 then (if x_tag M v0 = 8 + 10 then (if x_tag M (x_r M v0 0) = 4 + 10 then (if x_tag M (x_r M v0 10) = 2 + 10 then (x_bv (f_X2_hear (x_r M v0 10) (x_i M (x_r M v0 0) 3) M) (f_X8_firstWrong_c130 κ19 v0 v2 v3 v4)) else none) else none) else none) else (some (v4, M))
set_option maxRecDepth 20000 in
set_option maxHeartbeats 4000000 in
theorem t_X8_firstWrong_c113 (l : Launch) {κ19 : Nat → Int32 → Int32 → Int32 → XM → Option (Int32 × XM)} {v0 : Nat} {v2 : Int32} {v3 : Int32} {v4 : Int32} {s1 : Int32} {s0 : Int32} {M : XM} {q : Int32 × XM} (hκ19 : ∀ (v0 : Nat) (v2 : Int32) (v3 : Int32) (v4 : Int32) (M : XM), κ19 v0 v2 v3 v4 M = some q → AW l m_X8_firstWrong 4 0 0 (x_Ri q) 0 0 19 [some (.ref v0), none, some (.int v2), some (.int v3), some (.int v4), none] [] M) (H : f_X8_firstWrong_c113 κ19 v0 v2 v3 v4 s1 s0 M = some q) : AW l m_X8_firstWrong 4 0 0 (x_Ri q) 0 0 116 [some (.ref v0), none, some (.int v2), some (.int v3), some (.int v4), none] [(.int s0), (.int s1)] M := by
  unfold f_X8_firstWrong_c113 at H
  refine x_icmp_ne 116 136 dX8_firstWrong_116 (by decide) (fun c29 => ?_) (fun c29 => ?_)
  · replace H := x_ifn c29 H
    refine x_iload 136 4 dX8_firstWrong_136 rfl ?_
    cases H
    exact x_iret 138 dX8_firstWrong_138 .int rfl rfl (Nat.le_of_ble_eq_true rfl) (Nat.le_of_ble_eq_true rfl) ⟨rfl, rfl⟩
  · replace H := x_ifp c29 H
    refine x_aload_n 119 0 dX8_firstWrong_119 rfl rfl ?_
    obtain ⟨h30, H⟩ := x_ckp H
    refine x_getf 120 64 8 10 (.ref (x_r M v0 10)) dX8_firstWrong_120 lk_370 (by decide) (by decide) rfl (fun _ => rfl) h30 ?_
    refine x_aload_n 123 0 dX8_firstWrong_123 rfl rfl ?_
    refine x_getf 124 10 8 0 (.ref (x_r M v0 0)) dX8_firstWrong_124 lk_360 (by decide) (by decide) rfl (fun _ => rfl) h30 ?_
    obtain ⟨h31, H⟩ := x_ckp H
    refine x_getf 127 154 4 3 (.int (x_i M (x_r M v0 0) 3)) dX8_firstWrong_127 lk_171 (by decide) (by decide) rfl (fun _ => rfl) h31 ?_
    obtain ⟨h32, H⟩ := x_ckp H
    obtain ⟨M33, e35, H⟩ := x_bv_of H
    refine x_callV 130 356 2 [(.int (x_i M (x_r M v0 0) 3))] [] dX8_firstWrong_130 (ct_X2_hear l e35) lk_879 lk_707 lk_708 (by decide) h32 lk_87 lk_709 ⟨cn_X2_hear, (by decide), by decide⟩ rfl (Nat.le_of_ble_eq_true rfl) (Nat.le_of_ble_eq_true rfl) (Nat.le_of_ble_eq_true rfl) (x_rv ?_)
    exact t_X8_firstWrong_c130 l hκ19 H

def f_X8_firstWrong_c53 (κ19 : Nat → Int32 → Int32 → Int32 → XM → Option (Int32 × XM)) (v0 : Nat) (v2 : Int32) (v3 : Int32) (v4 : Int32) (s0 : Int32) (M : XM) : Option (Int32 × XM) :=
  if x_tag M v0 = 8 + 10 then (if x_tag M (x_r M v0 10) = 2 + 10 then (if s0 = ((x_i M (x_r M v0 10) 2) + (1 : Int32)) then (x_lt (x_wi M (x_r M v0 10) 2 s0) (fun M21 => f_X8_firstWrong_139 κ19 v0 v2 v3 v4 M21)) else (if x_tag M (x_r M v0 0) = 4 + 10 then (x_bd (f_X2_leftAt (x_r M v0 10) (x_i M (x_r M v0 10) 2) ((x_i M (x_r M v0 10) 4) + (1 : Int32)) (x_i M (x_r M v0 0) 3) M) (f_X8_firstWrong_c113 κ19 v0 v2 v3 v4 s0)) else none)) else none) else none
set_option maxRecDepth 20000 in
set_option maxHeartbeats 4000000 in
theorem t_X8_firstWrong_c53 (l : Launch) {κ19 : Nat → Int32 → Int32 → Int32 → XM → Option (Int32 × XM)} {v0 : Nat} {v2 : Int32} {v3 : Int32} {v4 : Int32} {s0 : Int32} {M : XM} {q : Int32 × XM} (hκ19 : ∀ (v0 : Nat) (v2 : Int32) (v3 : Int32) (v4 : Int32) (M : XM), κ19 v0 v2 v3 v4 M = some q → AW l m_X8_firstWrong 4 0 0 (x_Ri q) 0 0 19 [some (.ref v0), none, some (.int v2), some (.int v3), some (.int v4), none] [] M) (H : f_X8_firstWrong_c53 κ19 v0 v2 v3 v4 s0 M = some q) : AW l m_X8_firstWrong 4 0 0 (x_Ri q) 0 0 56 [some (.ref v0), none, some (.int v2), some (.int v3), some (.int v4), none] [(.int s0)] M := by
  unfold f_X8_firstWrong_c53 at H
  refine x_istore 56 5 [some (.ref v0), none, some (.int v2), some (.int v3), some (.int v4), some (.int s0)] dX8_firstWrong_56 rfl (Nat.le_of_ble_eq_true rfl) rfl ?_
  refine x_iload 58 5 dX8_firstWrong_58 rfl ?_
  refine x_aload_n 60 0 dX8_firstWrong_60 rfl rfl ?_
  obtain ⟨h18, H⟩ := x_ckp H
  refine x_getf 61 64 8 10 (.ref (x_r M v0 10)) dX8_firstWrong_61 lk_370 (by decide) (by decide) rfl (fun _ => rfl) h18 ?_
  obtain ⟨h19, H⟩ := x_ckp H
  refine x_getf 64 169 2 2 (.int (x_i M (x_r M v0 10) 2)) dX8_firstWrong_64 lk_135 (by decide) (by decide) rfl (fun _ => rfl) h19 ?_
  refine x_iconst 67 (1 : Int32) dX8_firstWrong_67 (by decide) ?_
  refine x_iadd 68 dX8_firstWrong_68 ?_
  refine x_icmp_ne 69 84 dX8_firstWrong_69 (by decide) (fun c20 => ?_) (fun c20 => ?_)
  · replace H := x_ifn c20 H
    refine x_iload 84 5 dX8_firstWrong_84 rfl ?_
    refine x_aload_n 86 0 dX8_firstWrong_86 rfl rfl ?_
    refine x_getf 87 64 8 10 (.ref (x_r M v0 10)) dX8_firstWrong_87 lk_370 (by decide) (by decide) rfl (fun _ => rfl) h18 ?_
    refine x_aload_n 90 0 dX8_firstWrong_90 rfl rfl ?_
    refine x_getf 91 64 8 10 (.ref (x_r M v0 10)) dX8_firstWrong_91 lk_370 (by decide) (by decide) rfl (fun _ => rfl) h18 ?_
    refine x_getf 94 169 2 2 (.int (x_i M (x_r M v0 10) 2)) dX8_firstWrong_94 lk_135 (by decide) (by decide) rfl (fun _ => rfl) h19 ?_
    refine x_aload_n 97 0 dX8_firstWrong_97 rfl rfl ?_
    refine x_getf 98 64 8 10 (.ref (x_r M v0 10)) dX8_firstWrong_98 lk_370 (by decide) (by decide) rfl (fun _ => rfl) h18 ?_
    refine x_getf 101 175 2 4 (.int (x_i M (x_r M v0 10) 4)) dX8_firstWrong_101 lk_141 (by decide) (by decide) rfl (fun _ => rfl) h19 ?_
    refine x_iconst 104 (1 : Int32) dX8_firstWrong_104 (by decide) ?_
    refine x_iadd 105 dX8_firstWrong_105 ?_
    refine x_aload_n 106 0 dX8_firstWrong_106 rfl rfl ?_
    refine x_getf 107 10 8 0 (.ref (x_r M v0 0)) dX8_firstWrong_107 lk_360 (by decide) (by decide) rfl (fun _ => rfl) h18 ?_
    obtain ⟨h25, H⟩ := x_ckp H
    refine x_getf 110 154 4 3 (.int (x_i M (x_r M v0 0) 3)) dX8_firstWrong_110 lk_171 (by decide) (by decide) rfl (fun _ => rfl) h25 ?_
    obtain ⟨r27, M26, e28, H⟩ := x_bd_of H
    refine x_callV 113 210 2 [(.int (x_i M (x_r M v0 10) 2)), (.int ((x_i M (x_r M v0 10) 4) + (1 : Int32))), (.int (x_i M (x_r M v0 0) 3))] [(.int s0)] dX8_firstWrong_113 (ct_X2_leftAt l e28) lk_733 lk_711 lk_712 (by decide) h19 lk_87 lk_713 ⟨cn_X2_leftAt, (by decide), by decide⟩ rfl (Nat.le_of_ble_eq_true rfl) (Nat.le_of_ble_eq_true rfl) (Nat.le_of_ble_eq_true rfl) (x_ri ?_)
    exact x_wk (le_s (le_s (le_s (le_s (le_s (le_n le_0)))))) (t_X8_firstWrong_c113 l hκ19 H)
  · replace H := x_ifp c20 H
    refine x_aload_n 72 0 dX8_firstWrong_72 rfl rfl ?_
    refine x_getf 73 64 8 10 (.ref (x_r M v0 10)) dX8_firstWrong_73 lk_370 (by decide) (by decide) rfl (fun _ => rfl) h18 ?_
    refine x_iload 76 5 dX8_firstWrong_76 rfl ?_
    obtain ⟨M21, w22, H⟩ := x_lt_of H
    have h23 : x_tag M21 v0 = 8 + 10 := by rw [w22]; exact h18
    have h24 : x_tag M21 (x_r M v0 10) = 2 + 10 := by rw [w22]; exact h19
    refine x_putI' 78 169 2 2 dX8_firstWrong_78 lk_135 (by decide) (by decide) rfl (Or.inl rfl) (Or.inl rfl) h19 w22 ?_
    refine x_goto 81 139 dX8_firstWrong_81 (by decide) ?_
    exact x_wk (le_s (le_s (le_s (le_s (le_s (le_n le_0)))))) (t_X8_firstWrong_139 l hκ19 H)

def bd_X8_firstWrong_19 (κ19 : Nat → Int32 → Int32 → Int32 → XM → Option (Int32 × XM)) (v0 : Nat) (v2 : Int32) (v3 : Int32) (v4 : Int32) (M : XM) : Option (Int32 × XM) :=
  if v3 ≤ v4 then (some ((-1 : Int32), M)) else (if x_tag M v0 = 8 + 10 then (if x_tag M (x_r M v0 10) = 2 + 10 then (if x_tag M (x_r M v0 0) = 4 + 10 then (if (x_i M (x_r M v0 10) 2) < (x_i M (x_r M v0 0) 2) then (if x_at M (x_r M v0 5) 4 v2 = true then (if x_tag M (x_r M (x_r M v0 5) v2.toNatClampNeg) = 6 + 10 then (x_bd (f_X6_intAt (x_r M (x_r M v0 5) v2.toNatClampNeg) v4 M) (f_X8_firstWrong_c53 κ19 v0 v2 v3 v4)) else none) else none) else (some (v4, M))) else none) else none) else none)
set_option maxRecDepth 20000 in
set_option maxHeartbeats 4000000 in
theorem tb_X8_firstWrong_19 (l : Launch) {κ19 : Nat → Int32 → Int32 → Int32 → XM → Option (Int32 × XM)} {v0 : Nat} {v2 : Int32} {v3 : Int32} {v4 : Int32} {M : XM} {q : Int32 × XM} (hκ19 : ∀ (v0 : Nat) (v2 : Int32) (v3 : Int32) (v4 : Int32) (M : XM), κ19 v0 v2 v3 v4 M = some q → AW l m_X8_firstWrong 4 0 0 (x_Ri q) 0 0 19 [some (.ref v0), none, some (.int v2), some (.int v3), some (.int v4), none] [] M) (H : bd_X8_firstWrong_19 κ19 v0 v2 v3 v4 M = some q) : AW l m_X8_firstWrong 4 0 0 (x_Ri q) 0 0 19 [some (.ref v0), none, some (.int v2), some (.int v3), some (.int v4), none] [] M := by
  unfold bd_X8_firstWrong_19 at H
  refine x_iload 19 4 dX8_firstWrong_19 rfl ?_
  refine x_iload_n 21 3 dX8_firstWrong_21 rfl rfl ?_
  refine x_icmp_ge 22 145 dX8_firstWrong_22 (by decide) (fun c8 => ?_) (fun c8 => ?_)
  · replace H := x_ifp c8 H
    refine x_iconst 145 (-1 : Int32) dX8_firstWrong_145 (by decide) ?_
    cases H
    exact x_iret 146 dX8_firstWrong_146 .int rfl rfl (Nat.le_of_ble_eq_true rfl) (Nat.le_of_ble_eq_true rfl) ⟨rfl, rfl⟩
  · replace H := x_ifn c8 H
    refine x_aload_n 25 0 dX8_firstWrong_25 rfl rfl ?_
    obtain ⟨h9, H⟩ := x_ckp H
    refine x_getf 26 64 8 10 (.ref (x_r M v0 10)) dX8_firstWrong_26 lk_370 (by decide) (by decide) rfl (fun _ => rfl) h9 ?_
    obtain ⟨h10, H⟩ := x_ckp H
    refine x_getf 29 169 2 2 (.int (x_i M (x_r M v0 10) 2)) dX8_firstWrong_29 lk_135 (by decide) (by decide) rfl (fun _ => rfl) h10 ?_
    refine x_aload_n 32 0 dX8_firstWrong_32 rfl rfl ?_
    refine x_getf 33 10 8 0 (.ref (x_r M v0 0)) dX8_firstWrong_33 lk_360 (by decide) (by decide) rfl (fun _ => rfl) h9 ?_
    obtain ⟨h11, H⟩ := x_ckp H
    refine x_getf 36 190 4 2 (.int (x_i M (x_r M v0 0) 2)) dX8_firstWrong_36 lk_166 (by decide) (by decide) rfl (fun _ => rfl) h11 ?_
    refine x_icmp_lt 39 45 dX8_firstWrong_39 (by decide) (fun c12 => ?_) (fun c12 => ?_)
    · replace H := x_ifp c12 H
      refine x_aload_n 45 0 dX8_firstWrong_45 rfl rfl ?_
      refine x_getf 46 32 8 5 (.ref (x_r M v0 5)) dX8_firstWrong_46 lk_365 (by decide) (by decide) rfl (fun _ => rfl) h9 ?_
      refine x_iload_n 49 2 dX8_firstWrong_49 rfl rfl ?_
      obtain ⟨h13, H⟩ := x_ckp H
      refine x_aald4 50 dX8_firstWrong_50 h13 ?_
      refine x_iload 51 4 dX8_firstWrong_51 rfl ?_
      obtain ⟨h14, H⟩ := x_ckp H
      obtain ⟨r16, M15, e17, H⟩ := x_bd_of H
      refine x_callV 53 347 6 [(.int v4)] [] dX8_firstWrong_53 (ct_X6_intAt l e17) lk_746 lk_585 lk_586 (by decide) h14 lk_93 lk_587 ⟨cn_X6_intAt, (by decide), by decide⟩ rfl (Nat.le_of_ble_eq_true rfl) (Nat.le_of_ble_eq_true rfl) (Nat.le_of_ble_eq_true rfl) (x_ri ?_)
      exact t_X8_firstWrong_c53 l hκ19 H
    · replace H := x_ifn c12 H
      refine x_iload 42 4 dX8_firstWrong_42 rfl ?_
      cases H
      exact x_iret 44 dX8_firstWrong_44 .int rfl rfl (Nat.le_of_ble_eq_true rfl) (Nat.le_of_ble_eq_true rfl) ⟨rfl, rfl⟩

def lp_X8_firstWrong_19 (n : Nat) : Nat → Int32 → Int32 → Int32 → XM → Option (Int32 × XM) := x_rec (fun _ _ _ _ _ => none) (bd_X8_firstWrong_19) n
theorem t_X8_firstWrong_19 (l : Launch) {q : Int32 × XM} : ∀ (n : Nat) (v0 : Nat) (v2 : Int32) (v3 : Int32) (v4 : Int32) (M : XM), lp_X8_firstWrong_19 n v0 v2 v3 v4 M = some q → AW l m_X8_firstWrong 4 0 0 (x_Ri q) 0 0 19 [some (.ref v0), none, some (.int v2), some (.int v3), some (.int v4), none] [] M := by
  intro n
  induction n with
  | zero => intro v0 v2 v3 v4 M H; cases H
  | succ n ih => intro v0 v2 v3 v4 M H; exact tb_X8_firstWrong_19 l ih H
def f_X8_firstWrong_c13 (v0 : Nat) (v2 : Int32) (v3 : Int32) (M : XM) : Option (Int32 × XM) :=
  lp_X8_firstWrong_19 x_fuel v0 v2 v3 (0 : Int32) M
set_option maxRecDepth 20000 in
set_option maxHeartbeats 4000000 in
theorem t_X8_firstWrong_c13 (l : Launch) {v0 : Nat} {v2 : Int32} {v3 : Int32} {M : XM} {q : Int32 × XM} (H : f_X8_firstWrong_c13 v0 v2 v3 M = some q) : AW l m_X8_firstWrong 4 0 0 (x_Ri q) 0 0 16 [some (.ref v0), none, some (.int v2), some (.int v3), none, none] [] M := by
  unfold f_X8_firstWrong_c13 at H
  refine x_iconst 16 (0 : Int32) dX8_firstWrong_16 (by decide) ?_
  refine x_istore 17 4 [some (.ref v0), none, some (.int v2), some (.int v3), some (.int (0 : Int32)), none] dX8_firstWrong_17 rfl (Nat.le_of_ble_eq_true rfl) rfl ?_
  exact t_X8_firstWrong_19 l _ _ _ _ _ _ H

def f_X8_firstWrong (v0 : Nat) (v1 : Int32) (v2 : Int32) (v3 : Int32) (M : XM) : Option (Int32 × XM) :=
  if x_tag M v0 = 8 + 10 then (if x_tag M (x_r M v0 0) = 4 + 10 then (if x_at M (x_r M (x_r M v0 0) 0) 3 v1 = true then (if x_tag M (x_r M v0 10) = 2 + 10 then (x_bv (f_X2_becomeLike (x_r M v0 10) (x_r M (x_r M (x_r M v0 0) 0) v1.toNatClampNeg) M) (f_X8_firstWrong_c13 v0 v2 v3)) else none) else none) else none) else none
set_option maxRecDepth 20000 in
set_option maxHeartbeats 4000000 in
theorem t_X8_firstWrong (l : Launch) {v0 : Nat} {v1 : Int32} {v2 : Int32} {v3 : Int32} {M : XM} {q : Int32 × XM} (H : f_X8_firstWrong v0 v1 v2 v3 M = some q) : AW l m_X8_firstWrong 4 0 0 (x_Ri q) 0 0 0 [some (.ref v0), some (.int v1), some (.int v2), some (.int v3), none, none] [] M := by
  unfold f_X8_firstWrong at H
  refine x_aload_n 0 0 dX8_firstWrong_0 rfl rfl ?_
  obtain ⟨h1, H⟩ := x_ckp H
  refine x_getf 1 64 8 10 (.ref (x_r M v0 10)) dX8_firstWrong_1 lk_370 (by decide) (by decide) rfl (fun _ => rfl) h1 ?_
  refine x_aload_n 4 0 dX8_firstWrong_4 rfl rfl ?_
  refine x_getf 5 10 8 0 (.ref (x_r M v0 0)) dX8_firstWrong_5 lk_360 (by decide) (by decide) rfl (fun _ => rfl) h1 ?_
  obtain ⟨h2, H⟩ := x_ckp H
  refine x_getf 8 144 4 0 (.ref (x_r M (x_r M v0 0) 0)) dX8_firstWrong_8 lk_158 (by decide) (by decide) rfl (fun _ => rfl) h2 ?_
  refine x_iload_n 11 1 dX8_firstWrong_11 rfl rfl ?_
  obtain ⟨h3, H⟩ := x_ckp H
  refine x_aald3 12 dX8_firstWrong_12 h3 ?_
  obtain ⟨h4, H⟩ := x_ckp H
  obtain ⟨M5, e7, H⟩ := x_bv_of H
  refine x_callV 13 353 2 [(.ref (x_r M (x_r M (x_r M v0 0) 0) v1.toNatClampNeg))] [] dX8_firstWrong_13 (ct_X2_becomeLike l e7) lk_878 lk_580 lk_581 (by decide) h4 lk_87 lk_582 ⟨cn_X2_becomeLike, (by decide), by decide⟩ rfl (Nat.le_of_ble_eq_true rfl) (Nat.le_of_ble_eq_true rfl) (Nat.le_of_ble_eq_true rfl) (x_rv ?_)
  exact x_wk (le_s (le_n (le_s (le_s (le_s (le_s le_0)))))) (t_X8_firstWrong_c13 l H)

theorem ct_X8_firstWrong (l : Launch) {v0 : Nat} {v1 : Int32} {v2 : Int32} {v3 : Int32} {M : XM} {q : Int32 × XM} (H : f_X8_firstWrong v0 v1 v2 v3 M = some q) : Ct l m_X8_firstWrong 4 0 0 [(.ref v0), (.int v1), (.int v2), (.int v3)] M (x_Ri q) := x_met l m_X8_firstWrong 4 0 0 [(.ref v0), (.int v1), (.int v2), (.int v3)] M (x_Ri q) _ rfl rfl (Nat.le_of_ble_eq_true rfl) (t_X8_firstWrong l H)
