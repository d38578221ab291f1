theorem lk_126 : Cond.fieldLink RX2 15 RX2 "a" "I" ∈ x_TB := x_tb (k := 126) (by decide +kernel) rfl
theorem lk_123 : Cond.fieldLink RX2 9 RX2 "kind" "I" ∈ x_TB := x_tb (k := 123) (by decide +kernel) rfl
abbrev m_X2_leftAt : XU := (yX2_leftAt, cX2_leftAt, 6, (some .int))
theorem cn_X2_leftAt : m_X2_leftAt.1.cls ≠ "java/lang/invoke/MethodHandle" ∧ m_X2_leftAt.1.cls ≠ "java/lang/invoke/VarHandle" ∧ (parseMethodDescriptor m_X2_leftAt.1.desc).map (fun q => q.parameters.length) = some 3 := by decide +kernel
def f_X2_leftAt_37 (v0 : Nat) (v1 : Int32) (v4 : Int32) (s0 : Int32) (M : XM) : Option (Int32 × XM) :=
  if x_tag M v0 = 2 + 10 then (if (x_i M v0 0) = (1 : Int32) then (some (v4, M)) else if (x_i M v0 0) = (2 : Int32) then (some (v1, M)) else if (x_i M v0 0) = (3 : Int32) then (if ((x_i M v0 1) + (2 : Int32)) = 0 then none else some ((v1 - (v1 - v1 / ((x_i M v0 1) + (2 : Int32)) * ((x_i M v0 1) + (2 : Int32)))), M)) else if (x_i M v0 0) = (4 : Int32) then (if s0 = 0 then (some (v1, M)) else (some ((0 : Int32), M))) else if (x_i M v0 0) = (5 : Int32) then (if (x_i M v0 1) < (v1 - v4) then (some (v4, M)) else (some (v1, M))) else if (x_i M v0 0) = (6 : Int32) then (if s0 = 0 then (some (v1, M)) else (some ((v1 / (2 : Int32)), M))) else some ((0 : Int32), M)) else none
set_option maxRecDepth 20000 in
set_option maxHeartbeats 4000000 in
theorem t_X2_leftAt_37 (l : Launch) {o2 : Option Value} {o3 : Option Value} {o5 : Option Value} {v0 : Nat} {v1 : Int32} {v4 : Int32} {s0 : Int32} {M : XM} {q : Int32 × XM} (H : f_X2_leftAt_37 v0 v1 v4 s0 M = some q) : AW l m_X2_leftAt 1 0 0 (x_Ri q) 0 0 37 [some (.ref v0), some (.int v1), o2, o3, some (.int v4), o5] [(.int s0)] M := by
  unfold f_X2_leftAt_37 at H
  refine x_istore 37 5 [some (.ref v0), some (.int v1), o2, o3, some (.int v4), some (.int s0)] dX2_leftAt_37 rfl (Nat.le_of_ble_eq_true rfl) rfl ?_
  refine x_aload_n 39 0 dX2_leftAt_39 rfl rfl ?_
  obtain ⟨h7, H⟩ := x_ckp H
  refine x_getf 40 9 2 0 (.int (x_i M v0 0)) dX2_leftAt_40 lk_123 (by decide) (by decide) rfl (fun _ => rfl) h7 ?_
  by_cases c8 : (x_i M v0 0) = (1 : Int32)
  · replace H := x_ifp c8 H
    refine x_tableIn (off := 37) 43 80 dX2_leftAt_43 (by rw [c8]; decide) (by rw [c8]; decide) (by rw [c8]; rfl) (by decide) ?_
    refine x_iload 80 4 dX2_leftAt_80 rfl ?_
    cases H
    exact x_iret 82 dX2_leftAt_82 .int rfl rfl (Nat.le_of_ble_eq_true rfl) (Nat.le_of_ble_eq_true rfl) ⟨rfl, rfl⟩
  · replace H := x_ifn c8 H
    by_cases c9 : (x_i M v0 0) = (2 : Int32)
    · replace H := x_ifp c9 H
      refine x_tableIn (off := 40) 43 83 dX2_leftAt_43 (by rw [c9]; decide) (by rw [c9]; decide) (by rw [c9]; rfl) (by decide) ?_
      refine x_iload_n 83 1 dX2_leftAt_83 rfl rfl ?_
      cases H
      exact x_iret 84 dX2_leftAt_84 .int rfl rfl (Nat.le_of_ble_eq_true rfl) (Nat.le_of_ble_eq_true rfl) ⟨rfl, rfl⟩
    · replace H := x_ifn c9 H
      by_cases c10 : (x_i M v0 0) = (3 : Int32)
      · replace H := x_ifp c10 H
        refine x_tableIn (off := 42) 43 85 dX2_leftAt_43 (by rw [c10]; decide) (by rw [c10]; decide) (by rw [c10]; rfl) (by decide) ?_
        refine x_iload_n 85 1 dX2_leftAt_85 rfl rfl ?_
        refine x_iload_n 86 1 dX2_leftAt_86 rfl rfl ?_
        refine x_aload_n 87 0 dX2_leftAt_87 rfl rfl ?_
        refine x_getf 88 15 2 1 (.int (x_i M v0 1)) dX2_leftAt_88 lk_126 (by decide) (by decide) rfl (fun _ => rfl) h7 ?_
        refine x_iconst 91 (2 : Int32) dX2_leftAt_91 (by decide) ?_
        refine x_iadd 92 dX2_leftAt_92 ?_
        obtain ⟨h11, H⟩ := x_cnz H
        refine x_irem 93 dX2_leftAt_93 h11 ?_
        refine x_isub 94 dX2_leftAt_94 ?_
        cases H
        exact x_iret 95 dX2_leftAt_95 .int rfl rfl (Nat.le_of_ble_eq_true rfl) (Nat.le_of_ble_eq_true rfl) ⟨rfl, rfl⟩
      · replace H := x_ifn c10 H
        by_cases c12 : (x_i M v0 0) = (4 : Int32)
        · replace H := x_ifp c12 H
          refine x_tableIn (off := 53) 43 96 dX2_leftAt_43 (by rw [c12]; decide) (by rw [c12]; decide) (by rw [c12]; rfl) (by decide) ?_
          refine x_iload 96 5 dX2_leftAt_96 rfl ?_
          refine x_if_eq 98 105 dX2_leftAt_98 (by decide) (fun c13 => ?_) (fun c13 => ?_)
          · replace H := x_ifp c13 H
            refine x_iload_n 105 1 dX2_leftAt_105 rfl rfl ?_
            cases H
            exact x_iret 106 dX2_leftAt_106 .int rfl rfl (Nat.le_of_ble_eq_true rfl) (Nat.le_of_ble_eq_true rfl) ⟨rfl, rfl⟩
          · replace H := x_ifn c13 H
            refine x_iconst 101 (0 : Int32) dX2_leftAt_101 (by decide) ?_
            refine x_goto 102 106 dX2_leftAt_102 (by decide) ?_
            cases H
            exact x_iret 106 dX2_leftAt_106 .int rfl rfl (Nat.le_of_ble_eq_true rfl) (Nat.le_of_ble_eq_true rfl) ⟨rfl, rfl⟩
        · replace H := x_ifn c12 H
          by_cases c14 : (x_i M v0 0) = (5 : Int32)
          · replace H := x_ifp c14 H
            refine x_tableIn (off := 64) 43 107 dX2_leftAt_43 (by rw [c14]; decide) (by rw [c14]; decide) (by rw [c14]; rfl) (by decide) ?_
            refine x_iload_n 107 1 dX2_leftAt_107 rfl rfl ?_
            refine x_iload 108 4 dX2_leftAt_108 rfl ?_
            refine x_isub 110 dX2_leftAt_110 ?_
            refine x_aload_n 111 0 dX2_leftAt_111 rfl rfl ?_
            refine x_getf 112 15 2 1 (.int (x_i M v0 1)) dX2_leftAt_112 lk_126 (by decide) (by decide) rfl (fun _ => rfl) h7 ?_
            refine x_icmp_gt 115 122 dX2_leftAt_115 (by decide) (fun c15 => ?_) (fun c15 => ?_)
            · replace H := x_ifp c15 H
              refine x_iload 122 4 dX2_leftAt_122 rfl ?_
              cases H
              exact x_iret 124 dX2_leftAt_124 .int rfl rfl (Nat.le_of_ble_eq_true rfl) (Nat.le_of_ble_eq_true rfl) ⟨rfl, rfl⟩
            · replace H := x_ifn c15 H
              refine x_iload_n 118 1 dX2_leftAt_118 rfl rfl ?_
              refine x_goto 119 124 dX2_leftAt_119 (by decide) ?_
              cases H
              exact x_iret 124 dX2_leftAt_124 .int rfl rfl (Nat.le_of_ble_eq_true rfl) (Nat.le_of_ble_eq_true rfl) ⟨rfl, rfl⟩
          · replace H := x_ifn c14 H
            by_cases c16 : (x_i M v0 0) = (6 : Int32)
            · replace H := x_ifp c16 H
              refine x_tableIn (off := 82) 43 125 dX2_leftAt_43 (by rw [c16]; decide) (by rw [c16]; decide) (by rw [c16]; rfl) (by decide) ?_
              refine x_iload 125 5 dX2_leftAt_125 rfl ?_
              refine x_if_eq 127 136 dX2_leftAt_127 (by decide) (fun c17 => ?_) (fun c17 => ?_)
              · replace H := x_ifp c17 H
                refine x_iload_n 136 1 dX2_leftAt_136 rfl rfl ?_
                cases H
                exact x_iret 137 dX2_leftAt_137 .int rfl rfl (Nat.le_of_ble_eq_true rfl) (Nat.le_of_ble_eq_true rfl) ⟨rfl, rfl⟩
              · replace H := x_ifn c17 H
                refine x_iload_n 130 1 dX2_leftAt_130 rfl rfl ?_
                refine x_iconst 131 (2 : Int32) dX2_leftAt_131 (by decide) ?_
                refine x_idiv 132 dX2_leftAt_132 (by decide) ?_
                refine x_goto 133 137 dX2_leftAt_133 (by decide) ?_
                cases H
                exact x_iret 137 dX2_leftAt_137 .int rfl rfl (Nat.le_of_ble_eq_true rfl) (Nat.le_of_ble_eq_true rfl) ⟨rfl, rfl⟩
            · replace H := x_ifn c16 H
              refine x_tableOut 43 138 dX2_leftAt_43 (by have n0 := lv_neT (a := 1) c8 (by decide); have n1 := lv_neT (a := 2) c9 (by decide); have n2 := lv_neT (a := 3) c10 (by decide); have n3 := lv_neT (a := 4) c12 (by decide); have n4 := lv_neT (a := 5) c14 (by decide); have n5 := lv_neT (a := 6) c16 (by decide); omega) (by decide) ?_
              refine x_iconst 138 (0 : Int32) dX2_leftAt_138 (by decide) ?_
              cases H
              exact x_iret 139 dX2_leftAt_139 .int rfl rfl (Nat.le_of_ble_eq_true rfl) (Nat.le_of_ble_eq_true rfl) ⟨rfl, rfl⟩

def f_X2_leftAt (v0 : Nat) (v1 : Int32) (v2 : Int32) (v3 : Int32) (M : XM) : Option (Int32 × XM) :=
  if v3 < (1 : Int32) then (some (v1, M)) else (if x_tag M v0 = 2 + 10 then (if (0 : Int32) ≤ (x_i M v0 1) then (if v3 = 0 then none else if ((x_i M v0 1) + (1 : Int32)) = 0 then none else if (v2 - v2 / ((x_i M v0 1) + (1 : Int32)) * ((x_i M v0 1) + (1 : Int32))) = 0 then (f_X2_leftAt_37 v0 v1 (v1 - (v1 - v1 / v3 * v3)) (1 : Int32) M) else (f_X2_leftAt_37 v0 v1 (v1 - (v1 - v1 / v3 * v3)) (0 : Int32) M)) else (some (v1, M))) else none)
set_option maxRecDepth 20000 in
set_option maxHeartbeats 4000000 in
theorem t_X2_leftAt (l : Launch) {v0 : Nat} {v1 : Int32} {v2 : Int32} {v3 : Int32} {M : XM} {q : Int32 × XM} (H : f_X2_leftAt v0 v1 v2 v3 M = some q) : AW l m_X2_leftAt 1 0 0 (x_Ri q) 0 0 0 [some (.ref v0), some (.int v1), some (.int v2), some (.int v3), none, none] [] M := by
  unfold f_X2_leftAt at H
  refine x_iload_n 0 3 dX2_leftAt_0 rfl rfl ?_
  refine x_iconst 1 (1 : Int32) dX2_leftAt_1 (by decide) ?_
  refine x_icmp_lt 2 12 dX2_leftAt_2 (by decide) (fun c1 => ?_) (fun c1 => ?_)
  · replace H := x_ifp c1 H
    refine x_iload_n 12 1 dX2_leftAt_12 rfl rfl ?_
    cases H
    exact x_iret 13 dX2_leftAt_13 .int rfl rfl (Nat.le_of_ble_eq_true rfl) (Nat.le_of_ble_eq_true rfl) ⟨rfl, rfl⟩
  · replace H := x_ifn c1 H
    refine x_aload_n 5 0 dX2_leftAt_5 rfl rfl ?_
    obtain ⟨h2, H⟩ := x_ckp H
    refine x_getf 6 15 2 1 (.int (x_i M v0 1)) dX2_leftAt_6 lk_126 (by decide) (by decide) rfl (fun _ => rfl) h2 ?_
    refine x_if_ge 9 14 dX2_leftAt_9 (by decide) (fun c3 => ?_) (fun c3 => ?_)
    · replace H := x_ifp c3 H
      refine x_iload_n 14 1 dX2_leftAt_14 rfl rfl ?_
      refine x_iload_n 15 1 dX2_leftAt_15 rfl rfl ?_
      refine x_iload_n 16 3 dX2_leftAt_16 rfl rfl ?_
      obtain ⟨h4, H⟩ := x_cnz H
      refine x_irem 17 dX2_leftAt_17 h4 ?_
      refine x_isub 18 dX2_leftAt_18 ?_
      refine x_istore 19 4 [some (.ref v0), some (.int v1), some (.int v2), some (.int v3), some (.int (v1 - (v1 - v1 / v3 * v3))), none] dX2_leftAt_19 rfl (Nat.le_of_ble_eq_true rfl) rfl ?_
      refine x_iload_n 21 2 dX2_leftAt_21 rfl rfl ?_
      refine x_aload_n 22 0 dX2_leftAt_22 rfl rfl ?_
      refine x_getf 23 15 2 1 (.int (x_i M v0 1)) dX2_leftAt_23 lk_126 (by decide) (by decide) rfl (fun _ => rfl) h2 ?_
      refine x_iconst 26 (1 : Int32) dX2_leftAt_26 (by decide) ?_
      refine x_iadd 27 dX2_leftAt_27 ?_
      obtain ⟨h5, H⟩ := x_cnz H
      refine x_irem 28 dX2_leftAt_28 h5 ?_
      refine x_if_ne 29 36 dX2_leftAt_29 (by decide) (fun c6 => ?_) (fun c6 => ?_)
      · replace H := x_ifn c6 H
        refine x_iconst 36 (0 : Int32) dX2_leftAt_36 (by decide) ?_
        exact t_X2_leftAt_37 l H
      · replace H := x_ifp c6 H
        refine x_iconst 32 (1 : Int32) dX2_leftAt_32 (by decide) ?_
        refine x_goto 33 37 dX2_leftAt_33 (by decide) ?_
        exact t_X2_leftAt_37 l H
    · replace H := x_ifn c3 H
      refine x_iload_n 12 1 dX2_leftAt_12 rfl rfl ?_
      cases H
      exact x_iret 13 dX2_leftAt_13 .int rfl rfl (Nat.le_of_ble_eq_true rfl) (Nat.le_of_ble_eq_true rfl) ⟨rfl, rfl⟩

theorem ct_X2_leftAt (l : Launch) {v0 : Nat} {v1 : Int32} {v2 : Int32} {v3 : Int32} {M : XM} {q : Int32 × XM} (H : f_X2_leftAt v0 v1 v2 v3 M = some q) : Ct l m_X2_leftAt 1 0 0 [(.ref v0), (.int v1), (.int v2), (.int v3)] M (x_Ri q) := x_met l m_X2_leftAt 1 0 0 [(.ref v0), (.int v1), (.int v2), (.int v3)] M (x_Ri q) _ rfl rfl (Nat.le_of_ble_eq_true rfl) (t_X2_leftAt l H)
