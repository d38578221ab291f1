theorem lk_516 : Cond.code yX8_leftOver cX8_leftOver 2 (some .int) ∈ x_TB := x_tb (k := 516) (by decide +kernel) rfl
theorem lk_515 : Cond.static yX8_leftOver ∈ x_TB := x_tb (k := 515) (by decide +kernel) rfl
theorem lk_133 : Cond.fieldLink RX1 94 RX2 "at" "I" ∈ x_TB := x_tb (k := 133) (by decide +kernel) rfl
theorem lk_799 : Cond.constant RX1 87 (1000000 : Int32) ∈ x_TB := x_tb (k := 799) (by decide +kernel) rfl
theorem lk_128 : Cond.fieldLink RX1 61 RX2 "a" "I" ∈ x_TB := x_tb (k := 128) (by decide +kernel) rfl
abbrev m_X1_begin : XU := (yX1_begin, cX1_begin, 5, none)
theorem cn_X1_begin : m_X1_begin.1.cls ≠ "java/lang/invoke/MethodHandle" ∧ m_X1_begin.1.cls ≠ "java/lang/invoke/VarHandle" ∧ (parseMethodDescriptor m_X1_begin.1.desc).map (fun q => q.parameters.length) = some 3 := by decide +kernel
def f_X1_begin_c127 (v0 : Nat) (v4 : Nat) (s1 : Nat) (s0 : Int32) (M : XM) : Option XM :=
  if x_tag M v4 = 2 + 10 then (if x_at M s1 1 ((s0 * (200 : Int32)) + (x_i M v4 2)) = true then (x_lt (x_wi M s1 ((s0 * (200 : Int32)) + (x_i M v4 2)).toNatClampNeg (1000000 : Int32)) (fun M59 => if x_tag M59 v0 = 1 + 10 then (x_lt (x_wi M59 v0 7 (x_i M59 v4 2)) (fun M65 => x_lt (x_wi M65 v0 8 (x_i M65 v4 2)) (fun M71 => some M71))) else none)) else none) else none
set_option maxRecDepth 20000 in
set_option maxHeartbeats 4000000 in
theorem t_X1_begin_c127 (l : Launch) {v0 : Nat} {v4 : Nat} {s1 : Nat} {s0 : Int32} {M : XM} {q : XM} (H : f_X1_begin_c127 v0 v4 s1 s0 M = some q) : AW l m_X1_begin 5 0 0 (x_Rv q) 0 0 130 [some (.ref v0), none, none, none, some (.ref v4)] [(.int s0), (.ref s1)] M := by
  unfold f_X1_begin_c127 at H
  refine x_sipush 130 (200 : Int32) dX1_begin_130 (by decide) ?_
  refine x_imul 133 dX1_begin_133 ?_
  refine x_aload 134 4 dX1_begin_134 rfl ?_
  obtain ⟨h57, H⟩ := x_ckp H
  refine x_getf 136 94 2 2 (.int (x_i M v4 2)) dX1_begin_136 lk_133 (by decide) (by decide) rfl (fun _ => rfl) h57 ?_
  refine x_iadd 139 dX1_begin_139 ?_
  refine x_ldc 140 (1000000 : Int32) dX1_begin_140 lk_799 ?_
  obtain ⟨h58, H⟩ := x_ckp H
  obtain ⟨M59, w60, H⟩ := x_lt_of H
  have h61 : x_tag M59 v4 = 2 + 10 := by rw [w60]; exact h57
  have h62 : x_at M59 s1 1 ((s0 * (200 : Int32)) + (x_i M v4 2)) = true := by rw [w60]; exact h58
  have h63 : x_tag M59 s1 = 1 := by rw [w60]; exact (x_at_1 h58)
  refine x_iast' 142 dX1_begin_142 h58 w60 ?_
  refine x_aload_n 143 0 dX1_begin_143 rfl rfl ?_
  refine x_aload 144 4 dX1_begin_144 rfl ?_
  refine x_getf 146 94 2 2 (.int (x_i M59 v4 2)) dX1_begin_146 lk_133 (by decide) (by decide) rfl (fun _ => rfl) h61 ?_
  obtain ⟨h64, H⟩ := x_ckp H
  obtain ⟨M65, w66, H⟩ := x_lt_of H
  have h67 : x_tag M65 v4 = 2 + 10 := by rw [w66]; exact h61
  have h68 : x_at M65 s1 1 ((s0 * (200 : Int32)) + (x_i M v4 2)) = true := by rw [w66]; exact h62
  have h69 : x_tag M65 s1 = 1 := by rw [w66]; exact h63
  have h70 : x_tag M65 v0 = 1 + 10 := by rw [w66]; exact h64
  refine x_putI' 149 77 1 7 dX1_begin_149 lk_278 (by decide) (by decide) rfl (Or.inl rfl) (Or.inl rfl) h64 w66 ?_
  refine x_aload_n 152 0 dX1_begin_152 rfl rfl ?_
  refine x_aload 153 4 dX1_begin_153 rfl ?_
  refine x_getf 155 94 2 2 (.int (x_i M65 v4 2)) dX1_begin_155 lk_133 (by decide) (by decide) rfl (fun _ => rfl) h67 ?_
  obtain ⟨M71, w72, H⟩ := x_lt_of H
  have h73 : x_tag M71 v4 = 2 + 10 := by rw [w72]; exact h67
  have h74 : x_at M71 s1 1 ((s0 * (200 : Int32)) + (x_i M v4 2)) = true := by rw [w72]; exact h68
  have h75 : x_tag M71 s1 = 1 := by rw [w72]; exact h69
  have h76 : x_tag M71 v0 = 1 + 10 := by rw [w72]; exact h70
  refine x_putI' 158 80 1 8 dX1_begin_158 lk_279 (by decide) (by decide) rfl (Or.inl rfl) (Or.inl rfl) h70 w72 ?_
  cases H
  exact x_vret 161 dX1_begin_161 rfl (Nat.le_of_ble_eq_true rfl) (Nat.le_of_ble_eq_true rfl) ⟨rfl, rfl⟩

def f_X1_begin_c101 (v0 : Nat) (v4 : Nat) (s0 : Int32) (M : XM) : Option XM :=
  if s0 = 0 then (if x_tag M v0 = 1 + 10 then (if x_tag M v4 = 2 + 10 then (x_bd (f_X8_leftOver (x_i M v4 4) (x_i M v0 5) M) (f_X1_begin_c127 v0 v4 (x_r M v0 0))) else none) else none) else (if x_tag M v0 = 1 + 10 then (x_lt (x_wi M v0 6 (1000000 : Int32)) (fun M78 => some M78)) else none)
set_option maxRecDepth 20000 in
set_option maxHeartbeats 4000000 in
theorem t_X1_begin_c101 (l : Launch) {v0 : Nat} {v4 : Nat} {s0 : Int32} {M : XM} {q : XM} (H : f_X1_begin_c101 v0 v4 s0 M = some q) : AW l m_X1_begin 5 0 0 (x_Rv q) 0 0 104 [some (.ref v0), none, none, none, some (.ref v4)] [(.int s0)] M := by
  unfold f_X1_begin_c101 at H
  refine x_if_eq 104 114 dX1_begin_104 (by decide) (fun c51 => ?_) (fun c51 => ?_)
  · replace H := x_ifp c51 H
    refine x_aload_n 114 0 dX1_begin_114 rfl rfl ?_
    obtain ⟨h52, H⟩ := x_ckp H
    refine x_getf 115 9 1 0 (.ref (x_r M v0 0)) dX1_begin_115 lk_271 (by decide) (by decide) rfl (fun _ => rfl) h52 ?_
    refine x_aload 118 4 dX1_begin_118 rfl ?_
    obtain ⟨h53, H⟩ := x_ckp H
    refine x_getf 120 88 2 4 (.int (x_i M v4 4)) dX1_begin_120 lk_140 (by decide) (by decide) rfl (fun _ => rfl) h53 ?_
    refine x_aload_n 123 0 dX1_begin_123 rfl rfl ?_
    refine x_getf 124 64 1 5 (.int (x_i M v0 5)) dX1_begin_124 lk_276 (by decide) (by decide) rfl (fun _ => rfl) h52 ?_
    obtain ⟨r55, M54, e56, H⟩ := x_bd_of H
    refine x_callSN 127 91 [(.int (x_i M v4 4)), (.int (x_i M v0 5))] [(.ref (x_r M v0 0))] dX1_begin_127 (ct_X8_leftOver l e56) (List.mem_of_getElem? (i := 12) rfl) lk_515 lk_85 lk_516 ⟨cn_X8_leftOver, (by decide), by decide⟩ rfl (Nat.le_of_ble_eq_true rfl) (Nat.le_of_ble_eq_true rfl) (Nat.le_of_ble_eq_true rfl) (x_ri ?_)
    exact t_X1_begin_c127 l H
  · replace H := x_ifn c51 H
    refine x_aload_n 107 0 dX1_begin_107 rfl rfl ?_
    refine x_ldc 108 (1000000 : Int32) dX1_begin_108 lk_799 ?_
    obtain ⟨h77, H⟩ := x_ckp H
    obtain ⟨M78, w79, H⟩ := x_lt_of H
    have h80 : x_tag M78 v0 = 1 + 10 := by rw [w79]; exact h77
    refine x_putI' 110 34 1 6 dX1_begin_110 lk_277 (by decide) (by decide) rfl (Or.inl rfl) (Or.inl rfl) h77 w79 ?_
    cases H
    exact x_vret 113 dX1_begin_113 rfl (Nat.le_of_ble_eq_true rfl) (Nat.le_of_ble_eq_true rfl) ⟨rfl, rfl⟩

def f_X1_begin_c78 (v0 : Nat) (v1 : Nat) (v2 : Int32) (v4 : Nat) (M : XM) : Option XM :=
  if x_tag M v0 = 1 + 10 then (x_lt (x_wi M v0 6 (0 : Int32)) (fun M38 => x_lt (x_wi M38 v0 7 (x_i M38 v0 3)) (fun M41 => x_lt (x_wi M41 v0 8 (-1 : Int32)) (fun M44 => if x_tag M44 v1 = 4 + 10 then (x_bd (f_X4_isThrough v1 v2 M44) (f_X1_begin_c101 v0 v4)) else none)))) else none
set_option maxRecDepth 20000 in
set_option maxHeartbeats 4000000 in
theorem t_X1_begin_c78 (l : Launch) {v0 : Nat} {v1 : Nat} {v2 : Int32} {v4 : Nat} {M : XM} {q : XM} (H : f_X1_begin_c78 v0 v1 v2 v4 M = some q) : AW l m_X1_begin 5 0 0 (x_Rv q) 0 0 81 [some (.ref v0), some (.ref v1), some (.int v2), none, some (.ref v4)] [] M := by
  unfold f_X1_begin_c78 at H
  refine x_aload_n 81 0 dX1_begin_81 rfl rfl ?_
  refine x_iconst 82 (0 : Int32) dX1_begin_82 (by decide) ?_
  obtain ⟨h37, H⟩ := x_ckp H
  obtain ⟨M38, w39, H⟩ := x_lt_of H
  have h40 : x_tag M38 v0 = 1 + 10 := by rw [w39]; exact h37
  refine x_putI' 83 34 1 6 dX1_begin_83 lk_277 (by decide) (by decide) rfl (Or.inl rfl) (Or.inl rfl) h37 w39 ?_
  refine x_aload_n 86 0 dX1_begin_86 rfl rfl ?_
  refine x_aload_n 87 0 dX1_begin_87 rfl rfl ?_
  refine x_getf 88 50 1 3 (.int (x_i M38 v0 3)) dX1_begin_88 lk_274 (by decide) (by decide) rfl (fun _ => rfl) h40 ?_
  obtain ⟨M41, w42, H⟩ := x_lt_of H
  have h43 : x_tag M41 v0 = 1 + 10 := by rw [w42]; exact h40
  refine x_putI' 91 77 1 7 dX1_begin_91 lk_278 (by decide) (by decide) rfl (Or.inl rfl) (Or.inl rfl) h40 w42 ?_
  refine x_aload_n 94 0 dX1_begin_94 rfl rfl ?_
  refine x_iconst 95 (-1 : Int32) dX1_begin_95 (by decide) ?_
  obtain ⟨M44, w45, H⟩ := x_lt_of H
  have h46 : x_tag M44 v0 = 1 + 10 := by rw [w45]; exact h43
  refine x_putI' 96 80 1 8 dX1_begin_96 lk_279 (by decide) (by decide) rfl (Or.inl rfl) (Or.inl rfl) h43 w45 ?_
  refine x_aload_n 99 1 dX1_begin_99 rfl rfl ?_
  refine x_iload_n 100 2 dX1_begin_100 rfl rfl ?_
  obtain ⟨h47, H⟩ := x_ckp H
  obtain ⟨r49, M48, e50, H⟩ := x_bd_of H
  refine x_callV 101 83 4 [(.int v2)] [] dX1_begin_101 (ct_X4_isThrough l e50) lk_798 lk_698 lk_699 (by decide) h47 lk_86 lk_700 ⟨cn_X4_isThrough, (by decide), by decide⟩ rfl (Nat.le_of_ble_eq_true rfl) (Nat.le_of_ble_eq_true rfl) (Nat.le_of_ble_eq_true rfl) (x_ri ?_)
  exact x_wk (le_s (le_n (le_n (le_s (le_s le_0))))) (t_X1_begin_c101 l H)

def f_X1_begin_c71 (v0 : Nat) (v1 : Nat) (v2 : Int32) (v3 : Int32) (v4 : Nat) (M : XM) : Option XM :=
  if x_tag M v0 = 1 + 10 then (x_bv (f_X1_noteLefts v0 v4 v3 M) (f_X1_begin_c78 v0 v1 v2 v4)) else none
set_option maxRecDepth 20000 in
set_option maxHeartbeats 4000000 in
theorem t_X1_begin_c71 (l : Launch) {v0 : Nat} {v1 : Nat} {v2 : Int32} {v3 : Int32} {v4 : Nat} {M : XM} {q : XM} (H : f_X1_begin_c71 v0 v1 v2 v3 v4 M = some q) : AW l m_X1_begin 5 0 0 (x_Rv q) 0 0 74 [some (.ref v0), some (.ref v1), some (.int v2), some (.int v3), some (.ref v4)] [] M := by
  unfold f_X1_begin_c71 at H
  refine x_aload_n 74 0 dX1_begin_74 rfl rfl ?_
  refine x_aload 75 4 dX1_begin_75 rfl ?_
  refine x_iload_n 77 3 dX1_begin_77 rfl rfl ?_
  obtain ⟨h33, H⟩ := x_ckp H
  obtain ⟨M34, e36, H⟩ := x_bv_of H
  refine x_callV 78 73 1 [(.ref v4), (.int v3)] [] dX1_begin_78 (ct_X1_noteLefts l e36) lk_793 lk_795 lk_19 (by decide) h33 lk_90 lk_796 ⟨cn_X1_noteLefts, (by decide), by decide⟩ rfl (Nat.le_of_ble_eq_true rfl) (Nat.le_of_ble_eq_true rfl) (Nat.le_of_ble_eq_true rfl) (x_rv ?_)
  exact x_wk (le_s (le_s (le_s (le_n (le_s le_0))))) (t_X1_begin_c78 l H)

def f_X1_begin_c63 (v0 : Nat) (v1 : Nat) (v2 : Int32) (v3 : Int32) (v4 : Nat) (M : XM) : Option XM :=
  if x_tag M v0 = 1 + 10 then (x_bv (f_J7_fill_53178 (x_r M v0 1) (0 : Int32) M) (f_X1_begin_c71 v0 v1 v2 v3 v4)) else none
set_option maxRecDepth 20000 in
set_option maxHeartbeats 4000000 in
theorem t_X1_begin_c63 (l : Launch) {v0 : Nat} {v1 : Nat} {v2 : Int32} {v3 : Int32} {v4 : Nat} {M : XM} {q : XM} (H : f_X1_begin_c63 v0 v1 v2 v3 v4 M = some q) : AW l m_X1_begin 5 0 0 (x_Rv q) 0 0 66 [some (.ref v0), some (.ref v1), some (.int v2), some (.int v3), some (.ref v4)] [] M := by
  unfold f_X1_begin_c63 at H
  refine x_aload_n 66 0 dX1_begin_66 rfl rfl ?_
  obtain ⟨h29, H⟩ := x_ckp H
  refine x_getf 67 15 1 1 (.ref (x_r M v0 1)) dX1_begin_67 lk_272 (by decide) (by decide) rfl (fun _ => rfl) h29 ?_
  refine x_iconst 70 (0 : Int32) dX1_begin_70 (by decide) ?_
  obtain ⟨M30, e32, H⟩ := x_bv_of H
  refine x_callS 71 67 [(.ref (x_r M v0 1)), (.int (0 : Int32))] [] dX1_begin_71 (ct_J7_fill_53178 l e32) lk_790 lk_791 lk_95 lk_792 ⟨cn_J7_fill_53178, (by decide), by decide⟩ rfl (Nat.le_of_ble_eq_true rfl) (Nat.le_of_ble_eq_true rfl) (Nat.le_of_ble_eq_true rfl) (x_rv ?_)
  exact t_X1_begin_c71 l H

def f_X1_begin_55 (v0 : Nat) (v1 : Nat) (v2 : Int32) (v3 : Int32) (v4 : Nat) (s0 : Int32) (s1 : Nat) (M : XM) : Option XM :=
  if x_tag M s1 = 1 + 10 then (x_lt (x_wi M s1 5 s0) (fun M22 => if x_tag M22 v0 = 1 + 10 then (x_bv (f_J7_fill_53178 (x_r M22 v0 0) (0 : Int32) M22) (f_X1_begin_c63 v0 v1 v2 v3 v4)) else none)) else none
set_option maxRecDepth 20000 in
set_option maxHeartbeats 4000000 in
theorem t_X1_begin_55 (l : Launch) {v0 : Nat} {v1 : Nat} {v2 : Int32} {v3 : Int32} {v4 : Nat} {s0 : Int32} {s1 : Nat} {M : XM} {q : XM} (H : f_X1_begin_55 v0 v1 v2 v3 v4 s0 s1 M = some q) : AW l m_X1_begin 5 0 0 (x_Rv q) 0 0 55 [some (.ref v0), some (.ref v1), some (.int v2), some (.int v3), some (.ref v4)] [(.int s0), (.ref s1)] M := by
  unfold f_X1_begin_55 at H
  obtain ⟨h21, H⟩ := x_ckp H
  obtain ⟨M22, w23, H⟩ := x_lt_of H
  have h24 : x_tag M22 s1 = 1 + 10 := by rw [w23]; exact h21
  refine x_putI' 55 64 1 5 dX1_begin_55 lk_276 (by decide) (by decide) rfl (Or.inl rfl) (Or.inl rfl) h21 w23 ?_
  refine x_aload_n 58 0 dX1_begin_58 rfl rfl ?_
  obtain ⟨h25, H⟩ := x_ckp H
  refine x_getf 59 9 1 0 (.ref (x_r M22 v0 0)) dX1_begin_59 lk_271 (by decide) (by decide) rfl (fun _ => rfl) h25 ?_
  refine x_iconst 62 (0 : Int32) dX1_begin_62 (by decide) ?_
  obtain ⟨M26, e28, H⟩ := x_bv_of H
  refine x_callS 63 67 [(.ref (x_r M22 v0 0)), (.int (0 : Int32))] [] dX1_begin_63 (ct_J7_fill_53178 l e28) lk_790 lk_791 lk_95 lk_792 ⟨cn_J7_fill_53178, (by decide), by decide⟩ rfl (Nat.le_of_ble_eq_true rfl) (Nat.le_of_ble_eq_true rfl) (Nat.le_of_ble_eq_true rfl) (x_rv ?_)
  exact t_X1_begin_c63 l H

def f_X1_begin_c33 (v0 : Nat) (v1 : Nat) (v2 : Int32) (v3 : Int32) (v4 : Nat) (s1 : Nat) (s0 : Int32) (M : XM) : Option XM :=
  if s0 = 0 then (f_X1_begin_55 v0 v1 v2 v3 v4 (1 : Int32) s1 M) else (if x_tag M v4 = 2 + 10 then (f_X1_begin_55 v0 v1 v2 v3 v4 ((if (9 : Int32) < (x_i M v4 1) then (9 : Int32) else (x_i M v4 1)) + (1 : Int32)) s1 M) else none)
set_option maxRecDepth 20000 in
set_option maxHeartbeats 4000000 in
theorem t_X1_begin_c33 (l : Launch) {v0 : Nat} {v1 : Nat} {v2 : Int32} {v3 : Int32} {v4 : Nat} {s1 : Nat} {s0 : Int32} {M : XM} {q : XM} (H : f_X1_begin_c33 v0 v1 v2 v3 v4 s1 s0 M = some q) : AW l m_X1_begin 5 0 0 (x_Rv q) 0 0 36 [some (.ref v0), some (.ref v1), some (.int v2), some (.int v3), some (.ref v4)] [(.int s0), (.ref s1)] M := by
  unfold f_X1_begin_c33 at H
  refine x_if_eq 36 54 dX1_begin_36 (by decide) (fun c20 => ?_) (fun c20 => ?_)
  · replace H := x_ifp c20 H
    refine x_iconst 54 (1 : Int32) dX1_begin_54 (by decide) ?_
    exact t_X1_begin_55 l H
  · replace H := x_ifn c20 H
    refine x_aload 39 4 dX1_begin_39 rfl ?_
    obtain ⟨h81, H⟩ := x_ckp H
    refine x_getf 41 61 2 1 (.int (x_i M v4 1)) dX1_begin_41 lk_128 (by decide) (by decide) rfl (fun _ => rfl) h81 ?_
    refine x_bipush 44 (9 : Int32) dX1_begin_44 (by decide) ?_
    refine x_min 46 44 dX1_begin_46 lk_784 lk_561 lk_97 lk_562 rfl (Nat.le_of_ble_eq_true rfl) (by decide) (Nat.le_of_ble_eq_true rfl) (Nat.le_of_ble_eq_true rfl) ?_
    refine x_iconst 49 (1 : Int32) dX1_begin_49 (by decide) ?_
    refine x_iadd 50 dX1_begin_50 ?_
    refine x_goto 51 55 dX1_begin_51 (by decide) ?_
    exact t_X1_begin_55 l H

def f_X1_begin (v0 : Nat) (v1 : Nat) (v2 : Int32) (v3 : Int32) (M : XM) : Option XM :=
  if x_tag M v1 = 4 + 10 then (if x_at M (x_r M v1 0) 3 v2 = true then (if x_tag M v0 = 1 + 10 then (x_lt (x_wi M v0 3 (if (200 : Int32) < (x_i M v1 2) then (200 : Int32) else (x_i M v1 2))) (fun M4 => x_lt (x_wi M4 v0 4 (x_i M4 v1 4)) (fun M10 => if x_tag M10 (x_r M (x_r M v1 0) v2.toNatClampNeg) = 2 + 10 then (x_bd (f_X2_hearsBySoMany (x_r M (x_r M v1 0) v2.toNatClampNeg) M10) (f_X1_begin_c33 v0 v1 v2 v3 (x_r M (x_r M v1 0) v2.toNatClampNeg) v0)) else none))) else none) else none) else none
set_option maxRecDepth 20000 in
set_option maxHeartbeats 4000000 in
theorem t_X1_begin (l : Launch) {v0 : Nat} {v1 : Nat} {v2 : Int32} {v3 : Int32} {M : XM} {q : XM} (H : f_X1_begin v0 v1 v2 v3 M = some q) : AW l m_X1_begin 5 0 0 (x_Rv q) 0 0 0 [some (.ref v0), some (.ref v1), some (.int v2), some (.int v3), none] [] M := by
  unfold f_X1_begin at H
  refine x_aload_n 0 1 dX1_begin_0 rfl rfl ?_
  obtain ⟨h1, H⟩ := x_ckp H
  refine x_getf 1 37 4 0 (.ref (x_r M v1 0)) dX1_begin_1 lk_157 (by decide) (by decide) rfl (fun _ => rfl) h1 ?_
  refine x_iload_n 4 2 dX1_begin_4 rfl rfl ?_
  obtain ⟨h2, H⟩ := x_ckp H
  refine x_aald3 5 dX1_begin_5 h2 ?_
  refine x_astore 6 4 [some (.ref v0), some (.ref v1), some (.int v2), some (.int v3), some (.ref (x_r M (x_r M v1 0) v2.toNatClampNeg))] dX1_begin_6 rfl (Nat.le_of_ble_eq_true rfl) rfl ?_
  refine x_aload_n 8 0 dX1_begin_8 rfl rfl ?_
  refine x_aload_n 9 1 dX1_begin_9 rfl rfl ?_
  refine x_getf 10 41 4 2 (.int (x_i M v1 2)) dX1_begin_10 lk_165 (by decide) (by decide) rfl (fun _ => rfl) h1 ?_
  refine x_sipush 13 (200 : Int32) dX1_begin_13 (by decide) ?_
  refine x_min 16 44 dX1_begin_16 lk_784 lk_561 lk_97 lk_562 rfl (Nat.le_of_ble_eq_true rfl) (by decide) (Nat.le_of_ble_eq_true rfl) (Nat.le_of_ble_eq_true rfl) ?_
  obtain ⟨h3, H⟩ := x_ckp H
  obtain ⟨M4, w5, H⟩ := x_lt_of H
  have h6 : x_tag M4 v1 = 4 + 10 := by rw [w5]; exact h1
  have h7 : x_at M4 (x_r M v1 0) 3 v2 = true := by rw [w5]; exact h2
  have h8 : x_tag M4 (x_r M v1 0) = 3 := by rw [w5]; exact (x_at_1 h2)
  have h9 : x_tag M4 v0 = 1 + 10 := by rw [w5]; exact h3
  refine x_putI' 19 50 1 3 dX1_begin_19 lk_274 (by decide) (by decide) rfl (Or.inl rfl) (Or.inl rfl) h3 w5 ?_
  refine x_aload_n 22 0 dX1_begin_22 rfl rfl ?_
  refine x_aload_n 23 1 dX1_begin_23 rfl rfl ?_
  refine x_getf 24 51 4 4 (.int (x_i M4 v1 4)) dX1_begin_24 lk_173 (by decide) (by decide) rfl (fun _ => rfl) h6 ?_
  obtain ⟨M10, w11, H⟩ := x_lt_of H
  have h12 : x_tag M10 v1 = 4 + 10 := by rw [w11]; exact h6
  have h13 : x_at M10 (x_r M v1 0) 3 v2 = true := by rw [w11]; exact h7
  have h14 : x_tag M10 (x_r M v1 0) = 3 := by rw [w11]; exact h8
  have h15 : x_tag M10 v0 = 1 + 10 := by rw [w11]; exact h9
  refine x_putI' 27 54 1 4 dX1_begin_27 lk_275 (by decide) (by decide) rfl (Or.inl rfl) (Or.inl rfl) h9 w11 ?_
  refine x_aload_n 30 0 dX1_begin_30 rfl rfl ?_
  refine x_aload 31 4 dX1_begin_31 rfl ?_
  obtain ⟨h16, H⟩ := x_ckp H
  obtain ⟨r18, M17, e19, H⟩ := x_bd_of H
  refine x_callV 33 55 2 [] [(.ref v0)] dX1_begin_33 (ct_X2_hearsBySoMany l e19) lk_785 lk_786 lk_787 (by decide) h16 lk_87 lk_788 ⟨cn_X2_hearsBySoMany, (by decide), by decide⟩ rfl (Nat.le_of_ble_eq_true rfl) (Nat.le_of_ble_eq_true rfl) (Nat.le_of_ble_eq_true rfl) (x_ri ?_)
  exact t_X1_begin_c33 l H

theorem ct_X1_begin (l : Launch) {v0 : Nat} {v1 : Nat} {v2 : Int32} {v3 : Int32} {M : XM} {q : XM} (H : f_X1_begin v0 v1 v2 v3 M = some q) : Ct l m_X1_begin 5 0 0 [(.ref v0), (.ref v1), (.int v2), (.int v3)] M (x_Rv q) := x_met l m_X1_begin 5 0 0 [(.ref v0), (.ref v1), (.int v2), (.int v3)] M (x_Rv q) _ rfl rfl (Nat.le_of_ble_eq_true rfl) (t_X1_begin l H)
theorem lk_783 : Cond.code yX1_begin cX1_begin 5 none ∈ x_TB := x_tb (k := 783) (by decide +kernel) rfl
theorem lk_780 : Cond.methodLink RX1 27 yX1_begin ∈ x_TB := x_tb (k := 780) (by decide +kernel) rfl
theorem lk_18 : Cond.selects RX1 yX1_begin yX1_begin ∈ x_TB := x_tb (k := 18) (by decide +kernel) rfl
theorem lk_782 : Cond.instanceMethod yX1_begin ∈ x_TB := x_tb (k := 782) (by decide +kernel) rfl
abbrev m_X1_passRest : XU := (yX1_passRest, cX1_passRest, 9, none)
theorem cn_X1_passRest : m_X1_passRest.1.cls ≠ "java/lang/invoke/MethodHandle" ∧ m_X1_passRest.1.cls ≠ "java/lang/invoke/VarHandle" ∧ (parseMethodDescriptor m_X1_passRest.1.desc).map (fun q => q.parameters.length) = some 4 := by decide +kernel
def f_X1_passRest_204 (κ3 : Nat → Int32 → Int32 → Int32 → Int32 → XM → Option XM) (v0 : Nat) (v1 : Int32) (v2 : Int32) (v4 : Int32) (v5 : Int32) (M : XM) : Option XM :=
  κ3 v0 v1 v2 v4 (v5 + (1 : Int32)) M
set_option maxRecDepth 20000 in
set_option maxHeartbeats 4000000 in
theorem t_X1_passRest_204 (l : Launch) {κ3 : Nat → Int32 → Int32 → Int32 → Int32 → XM → Option XM} {v0 : Nat} {v1 : Int32} {v2 : Int32} {v4 : Int32} {v5 : Int32} {M : XM} {q : XM} (hκ3 : ∀ (v0 : Nat) (v1 : Int32) (v2 : Int32) (v4 : Int32) (v5 : Int32) (M : XM), κ3 v0 v1 v2 v4 v5 M = some q → AW l m_X1_passRest 1 0 0 (x_Rv q) 0 0 3 [some (.ref v0), some (.int v1), some (.int v2), none, some (.int v4), some (.int v5), none, none, none] [] M) (H : f_X1_passRest_204 κ3 v0 v1 v2 v4 v5 M = some q) : AW l m_X1_passRest 1 0 0 (x_Rv q) 0 0 204 [some (.ref v0), some (.int v1), some (.int v2), none, some (.int v4), some (.int v5), none, none, none] [] M := by
  unfold f_X1_passRest_204 at H
  refine x_iinc 204 5 (v5 + (1 : Int32)) [some (.ref v0), some (.int v1), some (.int v2), none, some (.int v4), some (.int (v5 + (1 : Int32))), none, none, none] dX1_passRest_204 rfl (congrArg (fun z : Int32 => v5 + z) (show Int32.ofInt (1) = (1 : Int32) by decide)) rfl (Nat.le_of_ble_eq_true rfl) rfl ?_
  refine x_goto 207 3 dX1_passRest_207 (by decide) ?_
  exact hκ3 _ _ _ _ _ _ H

def f_X1_passRest_185 (κ3 : Nat → Int32 → Int32 → Int32 → Int32 → XM → Option XM) (v0 : Nat) (v1 : Int32) (v2 : Int32) (v4 : Int32) (v5 : Int32) (M : XM) : Option XM :=
  if x_tag M v0 = 1 + 10 then (if (v5 + (1 : Int32)) ≤ (x_i M v0 8) then (f_X1_passRest_204 κ3 v0 v1 v2 v4 v5 M) else (x_lt (x_wi M v0 8 (v5 + (1 : Int32))) (fun M23 => f_X1_passRest_204 κ3 v0 v1 v2 v4 v5 M23))) else none
set_option maxRecDepth 20000 in
set_option maxHeartbeats 4000000 in
theorem t_X1_passRest_185 (l : Launch) {κ3 : Nat → Int32 → Int32 → Int32 → Int32 → XM → Option XM} {v0 : Nat} {v1 : Int32} {v2 : Int32} {v4 : Int32} {v5 : Int32} {M : XM} {q : XM} (hκ3 : ∀ (v0 : Nat) (v1 : Int32) (v2 : Int32) (v4 : Int32) (v5 : Int32) (M : XM), κ3 v0 v1 v2 v4 v5 M = some q → AW l m_X1_passRest 1 0 0 (x_Rv q) 0 0 3 [some (.ref v0), some (.int v1), some (.int v2), none, some (.int v4), some (.int v5), none, none, none] [] M) (H : f_X1_passRest_185 κ3 v0 v1 v2 v4 v5 M = some q) : AW l m_X1_passRest 1 0 0 (x_Rv q) 0 0 185 [some (.ref v0), some (.int v1), some (.int v2), none, some (.int v4), some (.int v5), none, none, none] [] M := by
  unfold f_X1_passRest_185 at H
  refine x_iload 185 5 dX1_passRest_185 rfl ?_
  refine x_iconst 187 (1 : Int32) dX1_passRest_187 (by decide) ?_
  refine x_iadd 188 dX1_passRest_188 ?_
  refine x_aload_n 189 0 dX1_passRest_189 rfl rfl ?_
  obtain ⟨h21, H⟩ := x_ckp H
  refine x_getf 190 80 1 8 (.int (x_i M v0 8)) dX1_passRest_190 lk_279 (by decide) (by decide) rfl (fun _ => rfl) h21 ?_
  refine x_icmp_le 193 204 dX1_passRest_193 (by decide) (fun c22 => ?_) (fun c22 => ?_)
  · replace H := x_ifp c22 H
    exact t_X1_passRest_204 l hκ3 H
  · replace H := x_ifn c22 H
    refine x_aload_n 196 0 dX1_passRest_196 rfl rfl ?_
    refine x_iload 197 5 dX1_passRest_197 rfl ?_
    refine x_iconst 199 (1 : Int32) dX1_passRest_199 (by decide) ?_
    refine x_iadd 200 dX1_passRest_200 ?_
    obtain ⟨M23, w24, H⟩ := x_lt_of H
    have h25 : x_tag M23 v0 = 1 + 10 := by rw [w24]; exact h21
    refine x_putI' 201 80 1 8 dX1_passRest_201 lk_279 (by decide) (by decide) rfl (Or.inl rfl) (Or.inl rfl) h21 w24 ?_
    exact t_X1_passRest_204 l hκ3 H

def f_X1_passRest_112 (κ3 : Nat → Int32 → Int32 → Int32 → Int32 → XM → Option XM) (v0 : Nat) (v1 : Int32) (v2 : Int32) (v4 : Int32) (v5 : Int32) (v6 : Int32) (v7 : Int32) (M : XM) : Option XM :=
  if x_tag M v0 = 1 + 10 then (if (v5 + (1 : Int32)) < (x_i M v0 3) then (if v6 ≤ v7 then (f_X1_passRest_204 κ3 v0 v1 v2 v4 v5 M) else (if x_at M (x_r M v0 1) 1 ((v1 + v5) + (1 : Int32)) = true then (x_lt (x_wi M (x_r M v0 1) ((v1 + v5) + (1 : Int32)).toNatClampNeg ((x_i M (x_r M v0 1) ((v1 + v5) + (1 : Int32)).toNatClampNeg) + (v6 - v7))) (fun M15 => if (x_i M15 v0 7) ≤ (v5 + (1 : Int32)) then (f_X1_passRest_185 κ3 v0 v1 v2 v4 v5 M15) else (x_lt (x_wi M15 v0 7 (v5 + (1 : Int32))) (fun M26 => f_X1_passRest_185 κ3 v0 v1 v2 v4 v5 M26)))) else none)) else (x_lt (x_wi M v0 6 ((x_i M v0 6) + (v6 - v7))) (fun M31 => f_X1_passRest_204 κ3 v0 v1 v2 v4 v5 M31))) else none
set_option maxRecDepth 20000 in
set_option maxHeartbeats 4000000 in
theorem t_X1_passRest_112 (l : Launch) {κ3 : Nat → Int32 → Int32 → Int32 → Int32 → XM → Option XM} {v0 : Nat} {v1 : Int32} {v2 : Int32} {v4 : Int32} {v5 : Int32} {v6 : Int32} {v7 : Int32} {M : XM} {q : XM} (hκ3 : ∀ (v0 : Nat) (v1 : Int32) (v2 : Int32) (v4 : Int32) (v5 : Int32) (M : XM), κ3 v0 v1 v2 v4 v5 M = some q → AW l m_X1_passRest 1 0 0 (x_Rv q) 0 0 3 [some (.ref v0), some (.int v1), some (.int v2), none, some (.int v4), some (.int v5), none, none, none] [] M) (H : f_X1_passRest_112 κ3 v0 v1 v2 v4 v5 v6 v7 M = some q) : AW l m_X1_passRest 1 0 0 (x_Rv q) 0 0 112 [some (.ref v0), some (.int v1), some (.int v2), none, some (.int v4), some (.int v5), some (.int v6), some (.int v7), none] [] M := by
  unfold f_X1_passRest_112 at H
  refine x_iload 112 5 dX1_passRest_112 rfl ?_
  refine x_iconst 114 (1 : Int32) dX1_passRest_114 (by decide) ?_
  refine x_iadd 115 dX1_passRest_115 ?_
  refine x_aload_n 116 0 dX1_passRest_116 rfl rfl ?_
  obtain ⟨h11, H⟩ := x_ckp H
  refine x_getf 117 50 1 3 (.int (x_i M v0 3)) dX1_passRest_117 lk_274 (by decide) (by decide) rfl (fun _ => rfl) h11 ?_
  refine x_icmp_lt 120 140 dX1_passRest_120 (by decide) (fun c12 => ?_) (fun c12 => ?_)
  · replace H := x_ifp c12 H
    refine x_iload 140 7 dX1_passRest_140 rfl ?_
    refine x_iload 142 6 dX1_passRest_142 rfl ?_
    refine x_icmp_ge 144 204 dX1_passRest_144 (by decide) (fun c13 => ?_) (fun c13 => ?_)
    · replace H := x_ifp c13 H
      exact x_wk (le_s (le_s (le_s (le_s (le_s (le_s (le_n (le_n (le_s le_0))))))))) (t_X1_passRest_204 l hκ3 H)
    · replace H := x_ifn c13 H
      refine x_aload_n 147 0 dX1_passRest_147 rfl rfl ?_
      refine x_getf 148 15 1 1 (.ref (x_r M v0 1)) dX1_passRest_148 lk_272 (by decide) (by decide) rfl (fun _ => rfl) h11 ?_
      refine x_iload_n 151 1 dX1_passRest_151 rfl rfl ?_
      refine x_iload 152 5 dX1_passRest_152 rfl ?_
      refine x_iadd 154 dX1_passRest_154 ?_
      refine x_iconst 155 (1 : Int32) dX1_passRest_155 (by decide) ?_
      refine x_iadd 156 dX1_passRest_156 ?_
      refine x_dup2 157 dX1_passRest_157 rfl rfl ?_
      obtain ⟨h14, H⟩ := x_ckp H
      refine x_iald 158 dX1_passRest_158 h14 ?_
      refine x_iload 159 6 dX1_passRest_159 rfl ?_
      refine x_iload 161 7 dX1_passRest_161 rfl ?_
      refine x_isub 163 dX1_passRest_163 ?_
      refine x_iadd 164 dX1_passRest_164 ?_
      obtain ⟨M15, w16, H⟩ := x_lt_of H
      have h17 : x_tag M15 v0 = 1 + 10 := by rw [w16]; exact h11
      have h18 : x_at M15 (x_r M v0 1) 1 ((v1 + v5) + (1 : Int32)) = true := by rw [w16]; exact h14
      have h19 : x_tag M15 (x_r M v0 1) = 1 := by rw [w16]; exact (x_at_1 h14)
      refine x_iast' 165 dX1_passRest_165 h14 w16 ?_
      refine x_iload 166 5 dX1_passRest_166 rfl ?_
      refine x_iconst 168 (1 : Int32) dX1_passRest_168 (by decide) ?_
      refine x_iadd 169 dX1_passRest_169 ?_
      refine x_aload_n 170 0 dX1_passRest_170 rfl rfl ?_
      refine x_getf 171 77 1 7 (.int (x_i M15 v0 7)) dX1_passRest_171 lk_278 (by decide) (by decide) rfl (fun _ => rfl) h17 ?_
      refine x_icmp_ge 174 185 dX1_passRest_174 (by decide) (fun c20 => ?_) (fun c20 => ?_)
      · replace H := x_ifp c20 H
        exact x_wk (le_s (le_s (le_s (le_s (le_s (le_s (le_n (le_n (le_s le_0))))))))) (t_X1_passRest_185 l hκ3 H)
      · replace H := x_ifn c20 H
        refine x_aload_n 177 0 dX1_passRest_177 rfl rfl ?_
        refine x_iload 178 5 dX1_passRest_178 rfl ?_
        refine x_iconst 180 (1 : Int32) dX1_passRest_180 (by decide) ?_
        refine x_iadd 181 dX1_passRest_181 ?_
        obtain ⟨M26, w27, H⟩ := x_lt_of H
        have h28 : x_tag M26 v0 = 1 + 10 := by rw [w27]; exact h17
        have h29 : x_at M26 (x_r M v0 1) 1 ((v1 + v5) + (1 : Int32)) = true := by rw [w27]; exact h18
        have h30 : x_tag M26 (x_r M v0 1) = 1 := by rw [w27]; exact h19
        refine x_putI' 182 77 1 7 dX1_passRest_182 lk_278 (by decide) (by decide) rfl (Or.inl rfl) (Or.inl rfl) h17 w27 ?_
        exact x_wk (le_s (le_s (le_s (le_s (le_s (le_s (le_n (le_n (le_s le_0))))))))) (t_X1_passRest_185 l hκ3 H)
  · replace H := x_ifn c12 H
    refine x_aload_n 123 0 dX1_passRest_123 rfl rfl ?_
    refine x_dup 124 dX1_passRest_124 rfl ?_
    refine x_getf 125 34 1 6 (.int (x_i M v0 6)) dX1_passRest_125 lk_277 (by decide) (by decide) rfl (fun _ => rfl) h11 ?_
    refine x_iload 128 6 dX1_passRest_128 rfl ?_
    refine x_iload 130 7 dX1_passRest_130 rfl ?_
    refine x_isub 132 dX1_passRest_132 ?_
    refine x_iadd 133 dX1_passRest_133 ?_
    obtain ⟨M31, w32, H⟩ := x_lt_of H
    have h33 : x_tag M31 v0 = 1 + 10 := by rw [w32]; exact h11
    refine x_putI' 134 34 1 6 dX1_passRest_134 lk_277 (by decide) (by decide) rfl (Or.inl rfl) (Or.inl rfl) h11 w32 ?_
    refine x_goto 137 204 dX1_passRest_137 (by decide) ?_
    exact x_wk (le_s (le_s (le_s (le_s (le_s (le_s (le_n (le_n (le_s le_0))))))))) (t_X1_passRest_204 l hκ3 H)

def f_X1_passRest_97 (κ3 : Nat → Int32 → Int32 → Int32 → Int32 → XM → Option XM) (v0 : Nat) (v1 : Int32) (v2 : Int32) (v4 : Int32) (v5 : Int32) (v6 : Int32) (v7 : Int32) (v8 : Int32) (M : XM) : Option XM :=
  if x_tag M v0 = 1 + 10 then (if v8 ≤ (x_i M v0 8) then (f_X1_passRest_112 κ3 v0 v1 v2 v4 v5 v6 v7 M) else (x_lt (x_wi M v0 8 v8) (fun M48 => f_X1_passRest_112 κ3 v0 v1 v2 v4 v5 v6 v7 M48))) else none
set_option maxRecDepth 20000 in
set_option maxHeartbeats 4000000 in
theorem t_X1_passRest_97 (l : Launch) {κ3 : Nat → Int32 → Int32 → Int32 → Int32 → XM → Option XM} {v0 : Nat} {v1 : Int32} {v2 : Int32} {v4 : Int32} {v5 : Int32} {v6 : Int32} {v7 : Int32} {v8 : Int32} {M : XM} {q : XM} (hκ3 : ∀ (v0 : Nat) (v1 : Int32) (v2 : Int32) (v4 : Int32) (v5 : Int32) (M : XM), κ3 v0 v1 v2 v4 v5 M = some q → AW l m_X1_passRest 1 0 0 (x_Rv q) 0 0 3 [some (.ref v0), some (.int v1), some (.int v2), none, some (.int v4), some (.int v5), none, none, none] [] M) (H : f_X1_passRest_97 κ3 v0 v1 v2 v4 v5 v6 v7 v8 M = some q) : AW l m_X1_passRest 1 0 0 (x_Rv q) 0 0 97 [some (.ref v0), some (.int v1), some (.int v2), none, some (.int v4), some (.int v5), some (.int v6), some (.int v7), some (.int v8)] [] M := by
  unfold f_X1_passRest_97 at H
  refine x_iload 97 8 dX1_passRest_97 rfl ?_
  refine x_aload_n 99 0 dX1_passRest_99 rfl rfl ?_
  obtain ⟨h46, H⟩ := x_ckp H
  refine x_getf 100 80 1 8 (.int (x_i M v0 8)) dX1_passRest_100 lk_279 (by decide) (by decide) rfl (fun _ => rfl) h46 ?_
  refine x_icmp_le 103 112 dX1_passRest_103 (by decide) (fun c47 => ?_) (fun c47 => ?_)
  · replace H := x_ifp c47 H
    exact x_wk (le_s (le_s (le_s (le_s (le_s (le_s (le_s (le_s (le_n le_0))))))))) (t_X1_passRest_112 l hκ3 H)
  · replace H := x_ifn c47 H
    refine x_aload_n 106 0 dX1_passRest_106 rfl rfl ?_
    refine x_iload 107 8 dX1_passRest_107 rfl ?_
    obtain ⟨M48, w49, H⟩ := x_lt_of H
    have h50 : x_tag M48 v0 = 1 + 10 := by rw [w49]; exact h46
    refine x_putI' 109 80 1 8 dX1_passRest_109 lk_279 (by decide) (by decide) rfl (Or.inl rfl) (Or.inl rfl) h46 w49 ?_
    exact x_wk (le_s (le_s (le_s (le_s (le_s (le_s (le_s (le_s (le_n le_0))))))))) (t_X1_passRest_112 l hκ3 H)

def bd_X1_passRest_3 (κ3 : Nat → Int32 → Int32 → Int32 → Int32 → XM → Option XM) (v0 : Nat) (v1 : Int32) (v2 : Int32) (v4 : Int32) (v5 : Int32) (M : XM) : Option XM :=
  if v4 < v5 then (some M) else (if x_tag M v0 = 1 + 10 then (if x_at M (x_r M v0 0) 1 (v1 + v5) = true then (if (x_i M (x_r M v0 0) (v1 + v5).toNatClampNeg) = 0 then (f_X1_passRest_204 κ3 v0 v1 v2 v4 v5 M) else (x_lt (x_wi M (x_r M v0 0) (v1 + v5).toNatClampNeg (0 : Int32)) (fun M5 => if (((x_i M (x_r M v0 0) (v1 + v5).toNatClampNeg) * (x_i M5 v0 4)) / (1000 : Int32)) ≤ 0 then (f_X1_passRest_112 κ3 v0 v1 v2 v4 v5 (x_i M (x_r M v0 0) (v1 + v5).toNatClampNeg) (((x_i M (x_r M v0 0) (v1 + v5).toNatClampNeg) * (x_i M5 v0 4)) / (1000 : Int32)) M5) else (if x_at M5 (x_r M5 v0 2) 1 (v1 + v5) = true then (if x_at M5 (x_r M5 v0 1) 1 (v2 + (x_i M5 (x_r M5 v0 2) (v1 + v5).toNatClampNeg)) = true then (x_lt (x_wi M5 (x_r M5 v0 1) (v2 + (x_i M5 (x_r M5 v0 2) (v1 + v5).toNatClampNeg)).toNatClampNeg ((x_i M5 (x_r M5 v0 1) (v2 + (x_i M5 (x_r M5 v0 2) (v1 + v5).toNatClampNeg)).toNatClampNeg) + (((x_i M (x_r M v0 0) (v1 + v5).toNatClampNeg) * (x_i M5 v0 4)) / (1000 : Int32)))) (fun M36 => if (x_i M36 v0 7) ≤ (x_i M5 (x_r M5 v0 2) (v1 + v5).toNatClampNeg) then (f_X1_passRest_97 κ3 v0 v1 v2 v4 v5 (x_i M (x_r M v0 0) (v1 + v5).toNatClampNeg) (((x_i M (x_r M v0 0) (v1 + v5).toNatClampNeg) * (x_i M5 v0 4)) / (1000 : Int32)) (x_i M5 (x_r M5 v0 2) (v1 + v5).toNatClampNeg) M36) else (x_lt (x_wi M36 v0 7 (x_i M5 (x_r M5 v0 2) (v1 + v5).toNatClampNeg)) (fun M51 => f_X1_passRest_97 κ3 v0 v1 v2 v4 v5 (x_i M (x_r M v0 0) (v1 + v5).toNatClampNeg) (((x_i M (x_r M v0 0) (v1 + v5).toNatClampNeg) * (x_i M5 v0 4)) / (1000 : Int32)) (x_i M5 (x_r M5 v0 2) (v1 + v5).toNatClampNeg) M51)))) else none) else none)))) else none) else none)
set_option maxRecDepth 20000 in
set_option maxHeartbeats 4000000 in
theorem tb_X1_passRest_3 (l : Launch) {κ3 : Nat → Int32 → Int32 → Int32 → Int32 → XM → Option XM} {v0 : Nat} {v1 : Int32} {v2 : Int32} {v4 : Int32} {v5 : Int32} {M : XM} {q : XM} (hκ3 : ∀ (v0 : Nat) (v1 : Int32) (v2 : Int32) (v4 : Int32) (v5 : Int32) (M : XM), κ3 v0 v1 v2 v4 v5 M = some q → AW l m_X1_passRest 1 0 0 (x_Rv q) 0 0 3 [some (.ref v0), some (.int v1), some (.int v2), none, some (.int v4), some (.int v5), none, none, none] [] M) (H : bd_X1_passRest_3 κ3 v0 v1 v2 v4 v5 M = some q) : AW l m_X1_passRest 1 0 0 (x_Rv q) 0 0 3 [some (.ref v0), some (.int v1), some (.int v2), none, some (.int v4), some (.int v5), none, none, none] [] M := by
  unfold bd_X1_passRest_3 at H
  refine x_iload 3 5 dX1_passRest_3 rfl ?_
  refine x_iload 5 4 dX1_passRest_5 rfl ?_
  refine x_icmp_gt 7 210 dX1_passRest_7 (by decide) (fun c1 => ?_) (fun c1 => ?_)
  · replace H := x_ifp c1 H
    cases H
    exact x_vret 210 dX1_passRest_210 rfl (Nat.le_of_ble_eq_true rfl) (Nat.le_of_ble_eq_true rfl) ⟨rfl, rfl⟩
  · replace H := x_ifn c1 H
    refine x_aload_n 10 0 dX1_passRest_10 rfl rfl ?_
    obtain ⟨h2, H⟩ := x_ckp H
    refine x_getf 11 9 1 0 (.ref (x_r M v0 0)) dX1_passRest_11 lk_271 (by decide) (by decide) rfl (fun _ => rfl) h2 ?_
    refine x_iload_n 14 1 dX1_passRest_14 rfl rfl ?_
    refine x_iload 15 5 dX1_passRest_15 rfl ?_
    refine x_iadd 17 dX1_passRest_17 ?_
    obtain ⟨h3, H⟩ := x_ckp H
    refine x_iald 18 dX1_passRest_18 h3 ?_
    refine x_istore 19 6 [some (.ref v0), some (.int v1), some (.int v2), none, some (.int v4), some (.int v5), some (.int (x_i M (x_r M v0 0) (v1 + v5).toNatClampNeg)), none, none] dX1_passRest_19 rfl (Nat.le_of_ble_eq_true rfl) rfl ?_
    refine x_iload 21 6 dX1_passRest_21 rfl ?_
    refine x_if_ne 23 29 dX1_passRest_23 (by decide) (fun c4 => ?_) (fun c4 => ?_)
    · replace H := x_ifn c4 H
      refine x_aload_n 29 0 dX1_passRest_29 rfl rfl ?_
      refine x_getf 30 9 1 0 (.ref (x_r M v0 0)) dX1_passRest_30 lk_271 (by decide) (by decide) rfl (fun _ => rfl) h2 ?_
      refine x_iload_n 33 1 dX1_passRest_33 rfl rfl ?_
      refine x_iload 34 5 dX1_passRest_34 rfl ?_
      refine x_iadd 36 dX1_passRest_36 ?_
      refine x_iconst 37 (0 : Int32) dX1_passRest_37 (by decide) ?_
      obtain ⟨M5, w6, H⟩ := x_lt_of H
      have h7 : x_tag M5 v0 = 1 + 10 := by rw [w6]; exact h2
      have h8 : x_at M5 (x_r M v0 0) 1 (v1 + v5) = true := by rw [w6]; exact h3
      have h9 : x_tag M5 (x_r M v0 0) = 1 := by rw [w6]; exact (x_at_1 h3)
      refine x_iast' 38 dX1_passRest_38 h3 w6 ?_
      refine x_iload 39 6 dX1_passRest_39 rfl ?_
      refine x_aload_n 41 0 dX1_passRest_41 rfl rfl ?_
      refine x_getf 42 54 1 4 (.int (x_i M5 v0 4)) dX1_passRest_42 lk_275 (by decide) (by decide) rfl (fun _ => rfl) h7 ?_
      refine x_imul 45 dX1_passRest_45 ?_
      refine x_sipush 46 (1000 : Int32) dX1_passRest_46 (by decide) ?_
      refine x_idiv 49 dX1_passRest_49 (by decide) ?_
      refine x_istore 50 7 [some (.ref v0), some (.int v1), some (.int v2), none, some (.int v4), some (.int v5), some (.int (x_i M (x_r M v0 0) (v1 + v5).toNatClampNeg)), some (.int (((x_i M (x_r M v0 0) (v1 + v5).toNatClampNeg) * (x_i M5 v0 4)) / (1000 : Int32))), none] dX1_passRest_50 rfl (Nat.le_of_ble_eq_true rfl) rfl ?_
      refine x_iload 52 7 dX1_passRest_52 rfl ?_
      refine x_if_le 54 112 dX1_passRest_54 (by decide) (fun c10 => ?_) (fun c10 => ?_)
      · replace H := x_ifp c10 H
        exact t_X1_passRest_112 l hκ3 H
      · replace H := x_ifn c10 H
        refine x_aload_n 57 0 dX1_passRest_57 rfl rfl ?_
        refine x_getf 58 18 1 2 (.ref (x_r M5 v0 2)) dX1_passRest_58 lk_273 (by decide) (by decide) rfl (fun _ => rfl) h7 ?_
        refine x_iload_n 61 1 dX1_passRest_61 rfl rfl ?_
        refine x_iload 62 5 dX1_passRest_62 rfl ?_
        refine x_iadd 64 dX1_passRest_64 ?_
        obtain ⟨h34, H⟩ := x_ckp H
        refine x_iald 65 dX1_passRest_65 h34 ?_
        refine x_istore 66 8 [some (.ref v0), some (.int v1), some (.int v2), none, some (.int v4), some (.int v5), some (.int (x_i M (x_r M v0 0) (v1 + v5).toNatClampNeg)), some (.int (((x_i M (x_r M v0 0) (v1 + v5).toNatClampNeg) * (x_i M5 v0 4)) / (1000 : Int32))), some (.int (x_i M5 (x_r M5 v0 2) (v1 + v5).toNatClampNeg))] dX1_passRest_66 rfl (Nat.le_of_ble_eq_true rfl) rfl ?_
        refine x_aload_n 68 0 dX1_passRest_68 rfl rfl ?_
        refine x_getf 69 15 1 1 (.ref (x_r M5 v0 1)) dX1_passRest_69 lk_272 (by decide) (by decide) rfl (fun _ => rfl) h7 ?_
        refine x_iload_n 72 2 dX1_passRest_72 rfl rfl ?_
        refine x_iload 73 8 dX1_passRest_73 rfl ?_
        refine x_iadd 75 dX1_passRest_75 ?_
        refine x_dup2 76 dX1_passRest_76 rfl rfl ?_
        obtain ⟨h35, H⟩ := x_ckp H
        refine x_iald 77 dX1_passRest_77 h35 ?_
        refine x_iload 78 7 dX1_passRest_78 rfl ?_
        refine x_iadd 80 dX1_passRest_80 ?_
        obtain ⟨M36, w37, H⟩ := x_lt_of H
        have h38 : x_tag M36 v0 = 1 + 10 := by rw [w37]; exact h7
        have h39 : x_at M36 (x_r M v0 0) 1 (v1 + v5) = true := by rw [w37]; exact h8
        have h40 : x_tag M36 (x_r M v0 0) = 1 := by rw [w37]; exact h9
        have h41 : x_at M36 (x_r M5 v0 2) 1 (v1 + v5) = true := by rw [w37]; exact h34
        have h42 : x_tag M36 (x_r M5 v0 2) = 1 := by rw [w37]; exact (x_at_1 h34)
        have h43 : x_at M36 (x_r M5 v0 1) 1 (v2 + (x_i M5 (x_r M5 v0 2) (v1 + v5).toNatClampNeg)) = true := by rw [w37]; exact h35
        have h44 : x_tag M36 (x_r M5 v0 1) = 1 := by rw [w37]; exact (x_at_1 h35)
        refine x_iast' 81 dX1_passRest_81 h35 w37 ?_
        refine x_iload 82 8 dX1_passRest_82 rfl ?_
        refine x_aload_n 84 0 dX1_passRest_84 rfl rfl ?_
        refine x_getf 85 77 1 7 (.int (x_i M36 v0 7)) dX1_passRest_85 lk_278 (by decide) (by decide) rfl (fun _ => rfl) h38 ?_
        refine x_icmp_ge 88 97 dX1_passRest_88 (by decide) (fun c45 => ?_) (fun c45 => ?_)
        · replace H := x_ifp c45 H
          exact t_X1_passRest_97 l hκ3 H
        · replace H := x_ifn c45 H
          refine x_aload_n 91 0 dX1_passRest_91 rfl rfl ?_
          refine x_iload 92 8 dX1_passRest_92 rfl ?_
          obtain ⟨M51, w52, H⟩ := x_lt_of H
          have h53 : x_tag M51 v0 = 1 + 10 := by rw [w52]; exact h38
          have h54 : x_at M51 (x_r M v0 0) 1 (v1 + v5) = true := by rw [w52]; exact h39
          have h55 : x_tag M51 (x_r M v0 0) = 1 := by rw [w52]; exact h40
          have h56 : x_at M51 (x_r M5 v0 2) 1 (v1 + v5) = true := by rw [w52]; exact h41
          have h57 : x_tag M51 (x_r M5 v0 2) = 1 := by rw [w52]; exact h42
          have h58 : x_at M51 (x_r M5 v0 1) 1 (v2 + (x_i M5 (x_r M5 v0 2) (v1 + v5).toNatClampNeg)) = true := by rw [w52]; exact h43
          have h59 : x_tag M51 (x_r M5 v0 1) = 1 := by rw [w52]; exact h44
          refine x_putI' 94 77 1 7 dX1_passRest_94 lk_278 (by decide) (by decide) rfl (Or.inl rfl) (Or.inl rfl) h38 w52 ?_
          exact t_X1_passRest_97 l hκ3 H
    · replace H := x_ifp c4 H
      refine x_goto 26 204 dX1_passRest_26 (by decide) ?_
      exact x_wk (le_s (le_s (le_s (le_s (le_s (le_s (le_n (le_s (le_s le_0))))))))) (t_X1_passRest_204 l hκ3 H)

def lp_X1_passRest_3 (n : Nat) : Nat → Int32 → Int32 → Int32 → Int32 → XM → Option XM := x_rec (fun _ _ _ _ _ _ => none) (bd_X1_passRest_3) n
theorem t_X1_passRest_3 (l : Launch) {q : XM} : ∀ (n : Nat) (v0 : Nat) (v1 : Int32) (v2 : Int32) (v4 : Int32) (v5 : Int32) (M : XM), lp_X1_passRest_3 n v0 v1 v2 v4 v5 M = some q → AW l m_X1_passRest 1 0 0 (x_Rv q) 0 0 3 [some (.ref v0), some (.int v1), some (.int v2), none, some (.int v4), some (.int v5), none, none, none] [] M := by
  intro n
  induction n with
  | zero => intro v0 v1 v2 v4 v5 M H; cases H
  | succ n ih => intro v0 v1 v2 v4 v5 M H; exact tb_X1_passRest_3 l ih H
def f_X1_passRest (v0 : Nat) (v1 : Int32) (v2 : Int32) (v3 : Int32) (v4 : Int32) (M : XM) : Option XM :=
  lp_X1_passRest_3 x_fuel v0 v1 v2 v4 v3 M
set_option maxRecDepth 20000 in
set_option maxHeartbeats 4000000 in
theorem t_X1_passRest (l : Launch) {v0 : Nat} {v1 : Int32} {v2 : Int32} {v3 : Int32} {v4 : Int32} {M : XM} {q : XM} (H : f_X1_passRest v0 v1 v2 v3 v4 M = some q) : AW l m_X1_passRest 1 0 0 (x_Rv q) 0 0 0 [some (.ref v0), some (.int v1), some (.int v2), some (.int v3), some (.int v4), none, none, none, none] [] M := by
  unfold f_X1_passRest at H
  refine x_iload_n 0 3 dX1_passRest_0 rfl rfl ?_
  refine x_istore 1 5 [some (.ref v0), some (.int v1), some (.int v2), some (.int v3), some (.int v4), some (.int v3), none, none, none] dX1_passRest_1 rfl (Nat.le_of_ble_eq_true rfl) rfl ?_
  exact x_wk (le_s (le_s (le_s (le_n (le_s (le_s (le_s (le_s (le_s le_0))))))))) (t_X1_passRest_3 l _ _ _ _ _ _ _ H)

theorem ct_X1_passRest (l : Launch) {v0 : Nat} {v1 : Int32} {v2 : Int32} {v3 : Int32} {v4 : Int32} {M : XM} {q : XM} (H : f_X1_passRest v0 v1 v2 v3 v4 M = some q) : Ct l m_X1_passRest 1 0 0 [(.ref v0), (.int v1), (.int v2), (.int v3), (.int v4)] M (x_Rv q) := x_met l m_X1_passRest 1 0 0 [(.ref v0), (.int v1), (.int v2), (.int v3), (.int v4)] M (x_Rv q) _ rfl rfl (Nat.le_of_ble_eq_true rfl) (t_X1_passRest l H)
theorem lk_808 : Cond.code yX1_passRest cX1_passRest 9 none ∈ x_TB := x_tb (k := 808) (by decide +kernel) rfl
theorem lk_805 : Cond.methodLink RX1 101 yX1_passRest ∈ x_TB := x_tb (k := 805) (by decide +kernel) rfl
theorem lk_21 : Cond.selects RX1 yX1_passRest yX1_passRest ∈ x_TB := x_tb (k := 21) (by decide +kernel) rfl
theorem lk_807 : Cond.instanceMethod yX1_passRest ∈ x_TB := x_tb (k := 807) (by decide +kernel) rfl
abbrev m_X1_pass : XU := (yX1_pass, cX1_pass, 4, none)
theorem cn_X1_pass : m_X1_pass.1.cls ≠ "java/lang/invoke/MethodHandle" ∧ m_X1_pass.1.cls ≠ "java/lang/invoke/VarHandle" ∧ (parseMethodDescriptor m_X1_pass.1.desc).map (fun q => q.parameters.length) = some 0 := by decide +kernel
def f_X1_pass_c55 (κ25 : Nat → Int32 → Int32 → Int32 → XM → Option XM) (v0 : Nat) (v1 : Int32) (v2 : Int32) (v3 : Int32) (M : XM) : Option XM :=
  κ25 v0 v1 v2 (v3 + (1 : Int32)) M
set_option maxRecDepth 20000 in
set_option maxHeartbeats 4000000 in
theorem t_X1_pass_c55 (l : Launch) {κ25 : Nat → Int32 → Int32 → Int32 → XM → Option XM} {v0 : Nat} {v1 : Int32} {v2 : Int32} {v3 : Int32} {M : XM} {q : XM} (hκ25 : ∀ (v0 : Nat) (v1 : Int32) (v2 : Int32) (v3 : Int32) (M : XM), κ25 v0 v1 v2 v3 M = some q → AW l m_X1_pass 2 0 0 (x_Rv q) 0 0 25 [some (.ref v0), some (.int v1), some (.int v2), some (.int v3)] [] M) (H : f_X1_pass_c55 κ25 v0 v1 v2 v3 M = some q) : AW l m_X1_pass 2 0 0 (x_Rv q) 0 0 58 [some (.ref v0), some (.int v1), some (.int v2), some (.int v3)] [] M := by
  unfold f_X1_pass_c55 at H
  refine x_iinc 58 3 (v3 + (1 : Int32)) [some (.ref v0), some (.int v1), some (.int v2), some (.int (v3 + (1 : Int32)))] dX1_pass_58 rfl (congrArg (fun z : Int32 => v3 + z) (show Int32.ofInt (1) = (1 : Int32) by decide)) rfl (Nat.le_of_ble_eq_true rfl) rfl ?_
  refine x_goto 61 25 dX1_pass_61 (by decide) ?_
  exact hκ25 _ _ _ _ _ H

def f_X1_pass_c46 (κ25 : Nat → Int32 → Int32 → Int32 → XM → Option XM) (v0 : Nat) (v1 : Int32) (v2 : Int32) (v3 : Int32) (s1 : Int32) (s2 : Nat) (s0 : Int32) (M : XM) : Option XM :=
  if x_tag M s2 = 1 + 10 then (x_bv (f_X1_passRest s2 s1 (s0 * (200 : Int32)) v1 v2 M) (f_X1_pass_c55 κ25 v0 v1 v2 v3)) else none
set_option maxRecDepth 20000 in
set_option maxHeartbeats 4000000 in
theorem t_X1_pass_c46 (l : Launch) {κ25 : Nat → Int32 → Int32 → Int32 → XM → Option XM} {v0 : Nat} {v1 : Int32} {v2 : Int32} {v3 : Int32} {s1 : Int32} {s2 : Nat} {s0 : Int32} {M : XM} {q : XM} (hκ25 : ∀ (v0 : Nat) (v1 : Int32) (v2 : Int32) (v3 : Int32) (M : XM), κ25 v0 v1 v2 v3 M = some q → AW l m_X1_pass 2 0 0 (x_Rv q) 0 0 25 [some (.ref v0), some (.int v1), some (.int v2), some (.int v3)] [] M) (H : f_X1_pass_c46 κ25 v0 v1 v2 v3 s1 s2 s0 M = some q) : AW l m_X1_pass 2 0 0 (x_Rv q) 0 0 49 [some (.ref v0), some (.int v1), some (.int v2), some (.int v3)] [(.int s0), (.int s1), (.ref s2)] M := by
  unfold f_X1_pass_c46 at H
  refine x_sipush 49 (200 : Int32) dX1_pass_49 (by decide) ?_
  refine x_imul 52 dX1_pass_52 ?_
  refine x_iload_n 53 1 dX1_pass_53 rfl rfl ?_
  refine x_iload_n 54 2 dX1_pass_54 rfl rfl ?_
  obtain ⟨h19, H⟩ := x_ckp H
  obtain ⟨M20, e22, H⟩ := x_bv_of H
  refine x_callV 55 101 1 [(.int s1), (.int (s0 * (200 : Int32))), (.int v1), (.int v2)] [] dX1_pass_55 (ct_X1_passRest l e22) lk_805 lk_807 lk_21 (by decide) h19 lk_90 lk_808 ⟨cn_X1_passRest, (by decide), by decide⟩ rfl (Nat.le_of_ble_eq_true rfl) (Nat.le_of_ble_eq_true rfl) (Nat.le_of_ble_eq_true rfl) (x_rv ?_)
  exact t_X1_pass_c55 l hκ25 H

def bd_X1_pass_25 (κ25 : Nat → Int32 → Int32 → Int32 → XM → Option XM) (v0 : Nat) (v1 : Int32) (v2 : Int32) (v3 : Int32) (M : XM) : Option XM :=
  if x_tag M v0 = 1 + 10 then (if (x_i M v0 5) ≤ v3 then (x_lt (x_wr M v0 0 (x_r M v0 1)) (fun M10 => x_lt (x_wr M10 v0 1 (x_r M v0 0)) (fun M13 => some M13))) else (x_bd (f_X8_leftOver (v3 + (1 : Int32)) (x_i M v0 5) M) (f_X1_pass_c46 κ25 v0 v1 v2 v3 (v3 * (200 : Int32)) v0))) else none
set_option maxRecDepth 20000 in
set_option maxHeartbeats 4000000 in
theorem tb_X1_pass_25 (l : Launch) {κ25 : Nat → Int32 → Int32 → Int32 → XM → Option XM} {v0 : Nat} {v1 : Int32} {v2 : Int32} {v3 : Int32} {M : XM} {q : XM} (hκ25 : ∀ (v0 : Nat) (v1 : Int32) (v2 : Int32) (v3 : Int32) (M : XM), κ25 v0 v1 v2 v3 M = some q → AW l m_X1_pass 2 0 0 (x_Rv q) 0 0 25 [some (.ref v0), some (.int v1), some (.int v2), some (.int v3)] [] M) (H : bd_X1_pass_25 κ25 v0 v1 v2 v3 M = some q) : AW l m_X1_pass 2 0 0 (x_Rv q) 0 0 25 [some (.ref v0), some (.int v1), some (.int v2), some (.int v3)] [] M := by
  unfold bd_X1_pass_25 at H
  refine x_iload_n 25 3 dX1_pass_25 rfl rfl ?_
  refine x_aload_n 26 0 dX1_pass_26 rfl rfl ?_
  obtain ⟨h8, H⟩ := x_ckp H
  refine x_getf 27 64 1 5 (.int (x_i M v0 5)) dX1_pass_27 lk_276 (by decide) (by decide) rfl (fun _ => rfl) h8 ?_
  refine x_icmp_ge 30 64 dX1_pass_30 (by decide) (fun c9 => ?_) (fun c9 => ?_)
  · replace H := x_ifp c9 H
    refine x_aload_n 64 0 dX1_pass_64 rfl rfl ?_
    refine x_getf 65 9 1 0 (.ref (x_r M v0 0)) dX1_pass_65 lk_271 (by decide) (by decide) rfl (fun _ => rfl) h8 ?_
    refine x_astore_n 68 3 [some (.ref v0), some (.int v1), some (.int v2), some (.ref (x_r M v0 0))] dX1_pass_68 rfl rfl (Nat.le_of_ble_eq_true rfl) rfl ?_
    refine x_aload_n 69 0 dX1_pass_69 rfl rfl ?_
    refine x_aload_n 70 0 dX1_pass_70 rfl rfl ?_
    refine x_getf 71 15 1 1 (.ref (x_r M v0 1)) dX1_pass_71 lk_272 (by decide) (by decide) rfl (fun _ => rfl) h8 ?_
    obtain ⟨M10, w11, H⟩ := x_lt_of H
    have h12 : x_tag M10 v0 = 1 + 10 := by rw [w11]; exact h8
    refine x_putR' 74 9 1 0 dX1_pass_74 lk_271 (by decide) (by decide) rfl (Or.inr ⟨_, rfl⟩) (Or.inl rfl) h8 w11 ?_
    refine x_aload_n 77 0 dX1_pass_77 rfl rfl ?_
    refine x_aload_n 78 3 dX1_pass_78 rfl rfl ?_
    obtain ⟨M13, w14, H⟩ := x_lt_of H
    have h15 : x_tag M13 v0 = 1 + 10 := by rw [w14]; exact h12
    refine x_putR' 79 15 1 1 dX1_pass_79 lk_272 (by decide) (by decide) rfl (Or.inr ⟨_, rfl⟩) (Or.inl rfl) h12 w14 ?_
    cases H
    exact x_vret 82 dX1_pass_82 rfl (Nat.le_of_ble_eq_true rfl) (Nat.le_of_ble_eq_true rfl) ⟨rfl, rfl⟩
  · replace H := x_ifn c9 H
    refine x_aload_n 33 0 dX1_pass_33 rfl rfl ?_
    refine x_iload_n 34 3 dX1_pass_34 rfl rfl ?_
    refine x_sipush 35 (200 : Int32) dX1_pass_35 (by decide) ?_
    refine x_imul 38 dX1_pass_38 ?_
    refine x_iload_n 39 3 dX1_pass_39 rfl rfl ?_
    refine x_iconst 40 (1 : Int32) dX1_pass_40 (by decide) ?_
    refine x_iadd 41 dX1_pass_41 ?_
    refine x_aload_n 42 0 dX1_pass_42 rfl rfl ?_
    refine x_getf 43 64 1 5 (.int (x_i M v0 5)) dX1_pass_43 lk_276 (by decide) (by decide) rfl (fun _ => rfl) h8 ?_
    obtain ⟨r17, M16, e18, H⟩ := x_bd_of H
    refine x_callSN 46 91 [(.int (v3 + (1 : Int32))), (.int (x_i M v0 5))] [(.int (v3 * (200 : Int32))), (.ref v0)] dX1_pass_46 (ct_X8_leftOver l e18) (List.mem_of_getElem? (i := 12) rfl) lk_515 lk_85 lk_516 ⟨cn_X8_leftOver, (by decide), by decide⟩ rfl (Nat.le_of_ble_eq_true rfl) (Nat.le_of_ble_eq_true rfl) (Nat.le_of_ble_eq_true rfl) (x_ri ?_)
    exact t_X1_pass_c46 l hκ25 H

def lp_X1_pass_25 (n : Nat) : Nat → Int32 → Int32 → Int32 → XM → Option XM := x_rec (fun _ _ _ _ _ => none) (bd_X1_pass_25) n
theorem t_X1_pass_25 (l : Launch) {q : XM} : ∀ (n : Nat) (v0 : Nat) (v1 : Int32) (v2 : Int32) (v3 : Int32) (M : XM), lp_X1_pass_25 n v0 v1 v2 v3 M = some q → AW l m_X1_pass 2 0 0 (x_Rv q) 0 0 25 [some (.ref v0), some (.int v1), some (.int v2), some (.int v3)] [] M := by
  intro n
  induction n with
  | zero => intro v0 v1 v2 v3 M H; cases H
  | succ n ih => intro v0 v1 v2 v3 M H; exact tb_X1_pass_25 l ih H
def f_X1_pass (v0 : Nat) (M : XM) : Option XM :=
  if x_tag M v0 = 1 + 10 then (x_lt (x_wi M v0 7 (x_i M v0 3)) (fun M2 => x_lt (x_wi M2 v0 8 (-1 : Int32)) (fun M5 => lp_X1_pass_25 x_fuel v0 (x_i M v0 7) (x_i M v0 8) (0 : Int32) M5))) else none
set_option maxRecDepth 20000 in
set_option maxHeartbeats 4000000 in
theorem t_X1_pass (l : Launch) {v0 : Nat} {M : XM} {q : XM} (H : f_X1_pass v0 M = some q) : AW l m_X1_pass 2 0 0 (x_Rv q) 0 0 0 [some (.ref v0), none, none, none] [] M := by
  unfold f_X1_pass at H
  refine x_aload_n 0 0 dX1_pass_0 rfl rfl ?_
  obtain ⟨h1, H⟩ := x_ckp H
  refine x_getf 1 77 1 7 (.int (x_i M v0 7)) dX1_pass_1 lk_278 (by decide) (by decide) rfl (fun _ => rfl) h1 ?_
  refine x_istore_n 4 1 [some (.ref v0), some (.int (x_i M v0 7)), none, none] dX1_pass_4 rfl rfl (Nat.le_of_ble_eq_true rfl) rfl ?_
  refine x_aload_n 5 0 dX1_pass_5 rfl rfl ?_
  refine x_getf 6 80 1 8 (.int (x_i M v0 8)) dX1_pass_6 lk_279 (by decide) (by decide) rfl (fun _ => rfl) h1 ?_
  refine x_istore_n 9 2 [some (.ref v0), some (.int (x_i M v0 7)), some (.int (x_i M v0 8)), none] dX1_pass_9 rfl rfl (Nat.le_of_ble_eq_true rfl) rfl ?_
  refine x_aload_n 10 0 dX1_pass_10 rfl rfl ?_
  refine x_aload_n 11 0 dX1_pass_11 rfl rfl ?_
  refine x_getf 12 50 1 3 (.int (x_i M v0 3)) dX1_pass_12 lk_274 (by decide) (by decide) rfl (fun _ => rfl) h1 ?_
  obtain ⟨M2, w3, H⟩ := x_lt_of H
  have h4 : x_tag M2 v0 = 1 + 10 := by rw [w3]; exact h1
  refine x_putI' 15 77 1 7 dX1_pass_15 lk_278 (by decide) (by decide) rfl (Or.inl rfl) (Or.inl rfl) h1 w3 ?_
  refine x_aload_n 18 0 dX1_pass_18 rfl rfl ?_
  refine x_iconst 19 (-1 : Int32) dX1_pass_19 (by decide) ?_
  obtain ⟨M5, w6, H⟩ := x_lt_of H
  have h7 : x_tag M5 v0 = 1 + 10 := by rw [w6]; exact h4
  refine x_putI' 20 80 1 8 dX1_pass_20 lk_279 (by decide) (by decide) rfl (Or.inl rfl) (Or.inl rfl) h4 w6 ?_
  refine x_iconst 23 (0 : Int32) dX1_pass_23 (by decide) ?_
  refine x_istore_n 24 3 [some (.ref v0), some (.int (x_i M v0 7)), some (.int (x_i M v0 8)), some (.int (0 : Int32))] dX1_pass_24 rfl rfl (Nat.le_of_ble_eq_true rfl) rfl ?_
  exact t_X1_pass_25 l _ _ _ _ _ _ H

theorem ct_X1_pass (l : Launch) {v0 : Nat} {M : XM} {q : XM} (H : f_X1_pass v0 M = some q) : Ct l m_X1_pass 2 0 0 [(.ref v0)] M (x_Rv q) := x_met l m_X1_pass 2 0 0 [(.ref v0)] M (x_Rv q) _ rfl rfl (Nat.le_of_ble_eq_true rfl) (t_X1_pass l H)
theorem lk_804 : Cond.code yX1_pass cX1_pass 4 none ∈ x_TB := x_tb (k := 804) (by decide +kernel) rfl
theorem lk_801 : Cond.methodLink RX1 31 yX1_pass ∈ x_TB := x_tb (k := 801) (by decide +kernel) rfl
theorem lk_20 : Cond.selects RX1 yX1_pass yX1_pass ∈ x_TB := x_tb (k := 20) (by decide +kernel) rfl
theorem lk_803 : Cond.instanceMethod yX1_pass ∈ x_TB := x_tb (k := 803) (by decide +kernel) rfl
abbrev m_X1_behind : XU := (yX1_behind, cX1_behind, 5, (some .int))
theorem cn_X1_behind : m_X1_behind.1.cls ≠ "java/lang/invoke/MethodHandle" ∧ m_X1_behind.1.cls ≠ "java/lang/invoke/VarHandle" ∧ (parseMethodDescriptor m_X1_behind.1.desc).map (fun q => q.parameters.length) = some 3 := by decide +kernel
def f_X1_behind_c20 (κ13 : Nat → Int32 → Int32 → XM → Option (Int32 × XM)) (v0 : Nat) (v3 : Int32) (v4 : Int32) (M : XM) : Option (Int32 × XM) :=
  κ13 v0 v3 (v4 + (1 : Int32)) M
set_option maxRecDepth 20000 in
set_option maxHeartbeats 4000000 in
theorem t_X1_behind_c20 (l : Launch) {κ13 : Nat → Int32 → Int32 → XM → Option (Int32 × XM)} {v0 : Nat} {v3 : Int32} {v4 : Int32} {M : XM} {q : Int32 × XM} (hκ13 : ∀ (v0 : Nat) (v3 : Int32) (v4 : Int32) (M : XM), κ13 v0 v3 v4 M = some q → AW l m_X1_behind 6 0 0 (x_Ri q) 0 0 13 [some (.ref v0), none, none, some (.int v3), some (.int v4)] [] M) (H : f_X1_behind_c20 κ13 v0 v3 v4 M = some q) : AW l m_X1_behind 6 0 0 (x_Ri q) 0 0 23 [some (.ref v0), none, none, some (.int v3), some (.int v4)] [] M := by
  unfold f_X1_behind_c20 at H
  refine x_iinc 23 4 (v4 + (1 : Int32)) [some (.ref v0), none, none, some (.int v3), some (.int (v4 + (1 : Int32)))] dX1_behind_23 rfl (congrArg (fun z : Int32 => v4 + z) (show Int32.ofInt (1) = (1 : Int32) by decide)) rfl (Nat.le_of_ble_eq_true rfl) rfl ?_
  refine x_goto 26 13 dX1_behind_26 (by decide) ?_
  exact hκ13 _ _ _ _ H

def bd_X1_behind_13 (κ13 : Nat → Int32 → Int32 → XM → Option (Int32 × XM)) (v0 : Nat) (v3 : Int32) (v4 : Int32) (M : XM) : Option (Int32 × XM) :=
  if v3 ≤ v4 then (if x_tag M v0 = 1 + 10 then (some ((x_i M v0 6), M)) else none) else (if x_tag M v0 = 1 + 10 then (x_bv (f_X1_pass v0 M) (f_X1_behind_c20 κ13 v0 v3 v4)) else none)
set_option maxRecDepth 20000 in
set_option maxHeartbeats 4000000 in
theorem tb_X1_behind_13 (l : Launch) {κ13 : Nat → Int32 → Int32 → XM → Option (Int32 × XM)} {v0 : Nat} {v3 : Int32} {v4 : Int32} {M : XM} {q : Int32 × XM} (hκ13 : ∀ (v0 : Nat) (v3 : Int32) (v4 : Int32) (M : XM), κ13 v0 v3 v4 M = some q → AW l m_X1_behind 6 0 0 (x_Ri q) 0 0 13 [some (.ref v0), none, none, some (.int v3), some (.int v4)] [] M) (H : bd_X1_behind_13 κ13 v0 v3 v4 M = some q) : AW l m_X1_behind 6 0 0 (x_Ri q) 0 0 13 [some (.ref v0), none, none, some (.int v3), some (.int v4)] [] M := by
  unfold bd_X1_behind_13 at H
  refine x_iload 13 4 dX1_behind_13 rfl ?_
  refine x_iload_n 15 3 dX1_behind_15 rfl rfl ?_
  refine x_icmp_ge 16 29 dX1_behind_16 (by decide) (fun c6 => ?_) (fun c6 => ?_)
  · replace H := x_ifp c6 H
    refine x_aload_n 29 0 dX1_behind_29 rfl rfl ?_
    obtain ⟨h7, H⟩ := x_ckp H
    refine x_getf 30 34 1 6 (.int (x_i M v0 6)) dX1_behind_30 lk_277 (by decide) (by decide) rfl (fun _ => rfl) h7 ?_
    cases H
    exact x_iret 33 dX1_behind_33 .int rfl rfl (Nat.le_of_ble_eq_true rfl) (Nat.le_of_ble_eq_true rfl) ⟨rfl, rfl⟩
  · replace H := x_ifn c6 H
    refine x_aload_n 19 0 dX1_behind_19 rfl rfl ?_
    obtain ⟨h8, H⟩ := x_ckp H
    obtain ⟨M9, e11, H⟩ := x_bv_of H
    refine x_callV 20 31 1 [] [] dX1_behind_20 (ct_X1_pass l e11) lk_801 lk_803 lk_20 (by decide) h8 lk_90 lk_804 ⟨cn_X1_pass, (by decide), by decide⟩ rfl (Nat.le_of_ble_eq_true rfl) (Nat.le_of_ble_eq_true rfl) (Nat.le_of_ble_eq_true rfl) (x_rv ?_)
    exact t_X1_behind_c20 l hκ13 H

def lp_X1_behind_13 (n : Nat) : Nat → Int32 → Int32 → XM → Option (Int32 × XM) := x_rec (fun _ _ _ _ => none) (bd_X1_behind_13) n
theorem t_X1_behind_13 (l : Launch) {q : Int32 × XM} : ∀ (n : Nat) (v0 : Nat) (v3 : Int32) (v4 : Int32) (M : XM), lp_X1_behind_13 n v0 v3 v4 M = some q → AW l m_X1_behind 6 0 0 (x_Ri q) 0 0 13 [some (.ref v0), none, none, some (.int v3), some (.int v4)] [] M := by
  intro n
  induction n with
  | zero => intro v0 v3 v4 M H; cases H
  | succ n ih => intro v0 v3 v4 M H; exact tb_X1_behind_13 l ih H
def f_X1_behind_c7 (v0 : Nat) (v3 : Int32) (M : XM) : Option (Int32 × XM) :=
  lp_X1_behind_13 x_fuel v0 v3 (0 : Int32) M
set_option maxRecDepth 20000 in
set_option maxHeartbeats 4000000 in
theorem t_X1_behind_c7 (l : Launch) {v0 : Nat} {v3 : Int32} {M : XM} {q : Int32 × XM} (H : f_X1_behind_c7 v0 v3 M = some q) : AW l m_X1_behind 6 0 0 (x_Ri q) 0 0 10 [some (.ref v0), none, none, some (.int v3), none] [] M := by
  unfold f_X1_behind_c7 at H
  refine x_iconst 10 (0 : Int32) dX1_behind_10 (by decide) ?_
  refine x_istore 11 4 [some (.ref v0), none, none, some (.int v3), some (.int (0 : Int32))] dX1_behind_11 rfl (Nat.le_of_ble_eq_true rfl) rfl ?_
  exact t_X1_behind_13 l _ _ _ _ _ H

def f_X1_behind (v0 : Nat) (v1 : Nat) (v2 : Int32) (v3 : Int32) (M : XM) : Option (Int32 × XM) :=
  if x_tag M v1 = 4 + 10 then (if x_tag M v0 = 1 + 10 then (x_bv (f_X1_begin v0 v1 v2 (x_i M v1 3) M) (f_X1_behind_c7 v0 v3)) else none) else none
set_option maxRecDepth 20000 in
set_option maxHeartbeats 4000000 in
theorem t_X1_behind (l : Launch) {v0 : Nat} {v1 : Nat} {v2 : Int32} {v3 : Int32} {M : XM} {q : Int32 × XM} (H : f_X1_behind v0 v1 v2 v3 M = some q) : AW l m_X1_behind 6 0 0 (x_Ri q) 0 0 0 [some (.ref v0), some (.ref v1), some (.int v2), some (.int v3), none] [] M := by
  unfold f_X1_behind at H
  refine x_aload_n 0 0 dX1_behind_0 rfl rfl ?_
  refine x_aload_n 1 1 dX1_behind_1 rfl rfl ?_
  refine x_iload_n 2 2 dX1_behind_2 rfl rfl ?_
  refine x_aload_n 3 1 dX1_behind_3 rfl rfl ?_
  obtain ⟨h1, H⟩ := x_ckp H
  refine x_getf 4 21 4 3 (.int (x_i M v1 3)) dX1_behind_4 lk_168 (by decide) (by decide) rfl (fun _ => rfl) h1 ?_
  obtain ⟨h2, H⟩ := x_ckp H
  obtain ⟨M3, e5, H⟩ := x_bv_of H
  refine x_callV 7 27 1 [(.ref v1), (.int v2), (.int (x_i M v1 3))] [] dX1_behind_7 (ct_X1_begin l e5) lk_780 lk_782 lk_18 (by decide) h2 lk_90 lk_783 ⟨cn_X1_begin, (by decide), by decide⟩ rfl (Nat.le_of_ble_eq_true rfl) (Nat.le_of_ble_eq_true rfl) (Nat.le_of_ble_eq_true rfl) (x_rv ?_)
  exact x_wk (le_s (le_n (le_n (le_s (le_s le_0))))) (t_X1_behind_c7 l H)

theorem ct_X1_behind (l : Launch) {v0 : Nat} {v1 : Nat} {v2 : Int32} {v3 : Int32} {M : XM} {q : Int32 × XM} (H : f_X1_behind v0 v1 v2 v3 M = some q) : Ct l m_X1_behind 6 0 0 [(.ref v0), (.ref v1), (.int v2), (.int v3)] M (x_Ri q) := x_met l m_X1_behind 6 0 0 [(.ref v0), (.ref v1), (.int v2), (.int v3)] M (x_Ri q) _ rfl rfl (Nat.le_of_ble_eq_true rfl) (t_X1_behind l H)
abbrev m_X1_untilAtLeast : XU := (yX1_untilAtLeast, cX1_untilAtLeast, 7, (some .int))
theorem cn_X1_untilAtLeast : m_X1_untilAtLeast.1.cls ≠ "java/lang/invoke/MethodHandle" ∧ m_X1_untilAtLeast.1.cls ≠ "java/lang/invoke/VarHandle" ∧ (parseMethodDescriptor m_X1_untilAtLeast.1.desc).map (fun q => q.parameters.length) = some 5 := by decide +kernel
def f_X1_untilAtLeast_c30 (κ11 : Nat → Int32 → Int32 → Int32 → XM → Option (Int32 × XM)) (v0 : Nat) (v1 : Int32) (v5 : Int32) (v6 : Int32) (M : XM) : Option (Int32 × XM) :=
  κ11 v0 v1 v5 (v6 + (1 : Int32)) M
set_option maxRecDepth 20000 in
set_option maxHeartbeats 4000000 in
theorem t_X1_untilAtLeast_c30 (l : Launch) {κ11 : Nat → Int32 → Int32 → Int32 → XM → Option (Int32 × XM)} {v0 : Nat} {v1 : Int32} {v5 : Int32} {v6 : Int32} {M : XM} {q : Int32 × XM} (hκ11 : ∀ (v0 : Nat) (v1 : Int32) (v5 : Int32) (v6 : Int32) (M : XM), κ11 v0 v1 v5 v6 M = some q → AW l m_X1_untilAtLeast 6 0 0 (x_Ri q) 0 0 11 [some (.ref v0), some (.int v1), none, none, none, some (.int v5), some (.int v6)] [] M) (H : f_X1_untilAtLeast_c30 κ11 v0 v1 v5 v6 M = some q) : AW l m_X1_untilAtLeast 6 0 0 (x_Ri q) 0 0 33 [some (.ref v0), some (.int v1), none, none, none, some (.int v5), some (.int v6)] [] M := by
  unfold f_X1_untilAtLeast_c30 at H
  refine x_iinc 33 6 (v6 + (1 : Int32)) [some (.ref v0), some (.int v1), none, none, none, some (.int v5), some (.int (v6 + (1 : Int32)))] dX1_untilAtLeast_33 rfl (congrArg (fun z : Int32 => v6 + z) (show Int32.ofInt (1) = (1 : Int32) by decide)) rfl (Nat.le_of_ble_eq_true rfl) rfl ?_
  refine x_goto 36 11 dX1_untilAtLeast_36 (by decide) ?_
  exact hκ11 _ _ _ _ _ H

def bd_X1_untilAtLeast_11 (κ11 : Nat → Int32 → Int32 → Int32 → XM → Option (Int32 × XM)) (v0 : Nat) (v1 : Int32) (v5 : Int32) (v6 : Int32) (M : XM) : Option (Int32 × XM) :=
  if v5 < v6 then (some ((-1 : Int32), M)) else (if x_tag M v0 = 1 + 10 then (if (x_i M v0 6) < v1 then (x_bv (f_X1_pass v0 M) (f_X1_untilAtLeast_c30 κ11 v0 v1 v5 v6)) else (some (v6, M))) else none)
set_option maxRecDepth 20000 in
set_option maxHeartbeats 4000000 in
theorem tb_X1_untilAtLeast_11 (l : Launch) {κ11 : Nat → Int32 → Int32 → Int32 → XM → Option (Int32 × XM)} {v0 : Nat} {v1 : Int32} {v5 : Int32} {v6 : Int32} {M : XM} {q : Int32 × XM} (hκ11 : ∀ (v0 : Nat) (v1 : Int32) (v5 : Int32) (v6 : Int32) (M : XM), κ11 v0 v1 v5 v6 M = some q → AW l m_X1_untilAtLeast 6 0 0 (x_Ri q) 0 0 11 [some (.ref v0), some (.int v1), none, none, none, some (.int v5), some (.int v6)] [] M) (H : bd_X1_untilAtLeast_11 κ11 v0 v1 v5 v6 M = some q) : AW l m_X1_untilAtLeast 6 0 0 (x_Ri q) 0 0 11 [some (.ref v0), some (.int v1), none, none, none, some (.int v5), some (.int v6)] [] M := by
  unfold bd_X1_untilAtLeast_11 at H
  refine x_iload 11 6 dX1_untilAtLeast_11 rfl ?_
  refine x_iload 13 5 dX1_untilAtLeast_13 rfl ?_
  refine x_icmp_gt 15 39 dX1_untilAtLeast_15 (by decide) (fun c5 => ?_) (fun c5 => ?_)
  · replace H := x_ifp c5 H
    refine x_iconst 39 (-1 : Int32) dX1_untilAtLeast_39 (by decide) ?_
    cases H
    exact x_iret 40 dX1_untilAtLeast_40 .int rfl rfl (Nat.le_of_ble_eq_true rfl) (Nat.le_of_ble_eq_true rfl) ⟨rfl, rfl⟩
  · replace H := x_ifn c5 H
    refine x_aload_n 18 0 dX1_untilAtLeast_18 rfl rfl ?_
    obtain ⟨h6, H⟩ := x_ckp H
    refine x_getf 19 34 1 6 (.int (x_i M v0 6)) dX1_untilAtLeast_19 lk_277 (by decide) (by decide) rfl (fun _ => rfl) h6 ?_
    refine x_iload_n 22 1 dX1_untilAtLeast_22 rfl rfl ?_
    refine x_icmp_lt 23 29 dX1_untilAtLeast_23 (by decide) (fun c7 => ?_) (fun c7 => ?_)
    · replace H := x_ifp c7 H
      refine x_aload_n 29 0 dX1_untilAtLeast_29 rfl rfl ?_
      obtain ⟨M8, e10, H⟩ := x_bv_of H
      refine x_callV 30 31 1 [] [] dX1_untilAtLeast_30 (ct_X1_pass l e10) lk_801 lk_803 lk_20 (by decide) h6 lk_90 lk_804 ⟨cn_X1_pass, (by decide), by decide⟩ rfl (Nat.le_of_ble_eq_true rfl) (Nat.le_of_ble_eq_true rfl) (Nat.le_of_ble_eq_true rfl) (x_rv ?_)
      exact t_X1_untilAtLeast_c30 l hκ11 H
    · replace H := x_ifn c7 H
      refine x_iload 26 6 dX1_untilAtLeast_26 rfl ?_
      cases H
      exact x_iret 28 dX1_untilAtLeast_28 .int rfl rfl (Nat.le_of_ble_eq_true rfl) (Nat.le_of_ble_eq_true rfl) ⟨rfl, rfl⟩

def lp_X1_untilAtLeast_11 (n : Nat) : Nat → Int32 → Int32 → Int32 → XM → Option (Int32 × XM) := x_rec (fun _ _ _ _ _ => none) (bd_X1_untilAtLeast_11) n
theorem t_X1_untilAtLeast_11 (l : Launch) {q : Int32 × XM} : ∀ (n : Nat) (v0 : Nat) (v1 : Int32) (v5 : Int32) (v6 : Int32) (M : XM), lp_X1_untilAtLeast_11 n v0 v1 v5 v6 M = some q → AW l m_X1_untilAtLeast 6 0 0 (x_Ri q) 0 0 11 [some (.ref v0), some (.int v1), none, none, none, some (.int v5), some (.int v6)] [] M := by
  intro n
  induction n with
  | zero => intro v0 v1 v5 v6 M H; cases H
  | succ n ih => intro v0 v1 v5 v6 M H; exact tb_X1_untilAtLeast_11 l ih H
def f_X1_untilAtLeast_c5 (v0 : Nat) (v1 : Int32) (v5 : Int32) (M : XM) : Option (Int32 × XM) :=
  lp_X1_untilAtLeast_11 x_fuel v0 v1 v5 (0 : Int32) M
set_option maxRecDepth 20000 in
set_option maxHeartbeats 4000000 in
theorem t_X1_untilAtLeast_c5 (l : Launch) {v0 : Nat} {v1 : Int32} {v5 : Int32} {M : XM} {q : Int32 × XM} (H : f_X1_untilAtLeast_c5 v0 v1 v5 M = some q) : AW l m_X1_untilAtLeast 6 0 0 (x_Ri q) 0 0 8 [some (.ref v0), some (.int v1), none, none, none, some (.int v5), none] [] M := by
  unfold f_X1_untilAtLeast_c5 at H
  refine x_iconst 8 (0 : Int32) dX1_untilAtLeast_8 (by decide) ?_
  refine x_istore 9 6 [some (.ref v0), some (.int v1), none, none, none, some (.int v5), some (.int (0 : Int32))] dX1_untilAtLeast_9 rfl (Nat.le_of_ble_eq_true rfl) rfl ?_
  exact t_X1_untilAtLeast_11 l _ _ _ _ _ _ H

def f_X1_untilAtLeast (v0 : Nat) (v1 : Int32) (v2 : Nat) (v3 : Int32) (v4 : Int32) (v5 : Int32) (M : XM) : Option (Int32 × XM) :=
  if x_tag M v0 = 1 + 10 then (x_bv (f_X1_begin v0 v2 v3 v4 M) (f_X1_untilAtLeast_c5 v0 v1 v5)) else none
set_option maxRecDepth 20000 in
set_option maxHeartbeats 4000000 in
theorem t_X1_untilAtLeast (l : Launch) {v0 : Nat} {v1 : Int32} {v2 : Nat} {v3 : Int32} {v4 : Int32} {v5 : Int32} {M : XM} {q : Int32 × XM} (H : f_X1_untilAtLeast v0 v1 v2 v3 v4 v5 M = some q) : AW l m_X1_untilAtLeast 6 0 0 (x_Ri q) 0 0 0 [some (.ref v0), some (.int v1), some (.ref v2), some (.int v3), some (.int v4), some (.int v5), none] [] M := by
  unfold f_X1_untilAtLeast at H
  refine x_aload_n 0 0 dX1_untilAtLeast_0 rfl rfl ?_
  refine x_aload_n 1 2 dX1_untilAtLeast_1 rfl rfl ?_
  refine x_iload_n 2 3 dX1_untilAtLeast_2 rfl rfl ?_
  refine x_iload 3 4 dX1_untilAtLeast_3 rfl ?_
  obtain ⟨h1, H⟩ := x_ckp H
  obtain ⟨M2, e4, H⟩ := x_bv_of H
  refine x_callV 5 27 1 [(.ref v2), (.int v3), (.int v4)] [] dX1_untilAtLeast_5 (ct_X1_begin l e4) lk_780 lk_782 lk_18 (by decide) h1 lk_90 lk_783 ⟨cn_X1_begin, (by decide), by decide⟩ rfl (Nat.le_of_ble_eq_true rfl) (Nat.le_of_ble_eq_true rfl) (Nat.le_of_ble_eq_true rfl) (x_rv ?_)
  exact x_wk (le_s (le_s (le_n (le_n (le_n (le_s (le_s le_0))))))) (t_X1_untilAtLeast_c5 l H)

theorem ct_X1_untilAtLeast (l : Launch) {v0 : Nat} {v1 : Int32} {v2 : Nat} {v3 : Int32} {v4 : Int32} {v5 : Int32} {M : XM} {q : Int32 × XM} (H : f_X1_untilAtLeast v0 v1 v2 v3 v4 v5 M = some q) : Ct l m_X1_untilAtLeast 6 0 0 [(.ref v0), (.int v1), (.ref v2), (.int v3), (.int v4), (.int v5)] M (x_Ri q) := x_met l m_X1_untilAtLeast 6 0 0 [(.ref v0), (.int v1), (.ref v2), (.int v3), (.int v4), (.int v5)] M (x_Ri q) _ rfl rfl (Nat.le_of_ble_eq_true rfl) (t_X1_untilAtLeast l H)
theorem lk_122 : Cond.methodLink RX2 3 Lib.objectInit ∈ x_TB := x_tb (k := 122) (by decide +kernel) rfl
abbrev m_X2_init : XU := (yX2_init, cX2_init, 1, none)
theorem cn_X2_init : m_X2_init.1.cls ≠ "java/lang/invoke/MethodHandle" ∧ m_X2_init.1.cls ≠ "java/lang/invoke/VarHandle" ∧ (parseMethodDescriptor m_X2_init.1.desc).map (fun q => q.parameters.length) = some 0 := by decide +kernel
def f_X2_init (v0 : Nat) (M : XM) : Option XM :=
  if x_tag M v0 = 2 + 10 then (some M) else none
set_option maxRecDepth 20000 in
set_option maxHeartbeats 4000000 in
theorem t_X2_init (l : Launch) {v0 : Nat} {M : XM} {q : XM} (H : f_X2_init v0 M = some q) : AW l m_X2_init 1 0 0 (x_Rv q) 0 0 0 [some (.ref v0)] [] M := by
  unfold f_X2_init at H
  refine x_aload_n 0 0 dX2_init_0 rfl rfl ?_
  obtain ⟨h1, H⟩ := x_ckp H
  refine x_objInit 1 3 dX2_init_1 lk_122 lk_108 lk_109 h1 rfl (Nat.le_of_ble_eq_true rfl) (by decide) ?_
  cases H
  exact x_vret 4 dX2_init_4 rfl (Nat.le_of_ble_eq_true rfl) (Nat.le_of_ble_eq_true rfl) ⟨rfl, rfl⟩

theorem ct_X2_init (l : Launch) {v0 : Nat} {M : XM} {q : XM} (H : f_X2_init v0 M = some q) : Ct l m_X2_init 1 0 0 [(.ref v0)] M (x_Rv q) := x_met l m_X2_init 1 0 0 [(.ref v0)] M (x_Rv q) _ rfl rfl (Nat.le_of_ble_eq_true rfl) (t_X2_init l H)
theorem lk_131 : Cond.fieldLink RX2 21 RX2 "at" "I" ∈ x_TB := x_tb (k := 131) (by decide +kernel) rfl
theorem lk_136 : Cond.fieldLink RX2 24 RX2 "off" "I" ∈ x_TB := x_tb (k := 136) (by decide +kernel) rfl
theorem lk_139 : Cond.fieldLink RX2 27 RX2 "heard" "I" ∈ x_TB := x_tb (k := 139) (by decide +kernel) rfl
abbrev m_X2_beginAgain : XU := (yX2_beginAgain, cX2_beginAgain, 1, none)
theorem cn_X2_beginAgain : m_X2_beginAgain.1.cls ≠ "java/lang/invoke/MethodHandle" ∧ m_X2_beginAgain.1.cls ≠ "java/lang/invoke/VarHandle" ∧ (parseMethodDescriptor m_X2_beginAgain.1.desc).map (fun q => q.parameters.length) = some 0 := by decide +kernel
def f_X2_beginAgain (v0 : Nat) (M : XM) : Option XM :=
  if x_tag M v0 = 2 + 10 then (x_lt (x_wi M v0 2 (0 : Int32)) (fun M2 => x_lt (x_wi M2 v0 3 (0 : Int32)) (fun M5 => x_lt (x_wi M5 v0 4 (0 : Int32)) (fun M8 => some M8)))) else none
set_option maxRecDepth 20000 in
set_option maxHeartbeats 4000000 in
theorem t_X2_beginAgain (l : Launch) {v0 : Nat} {M : XM} {q : XM} (H : f_X2_beginAgain v0 M = some q) : AW l m_X2_beginAgain 1 0 0 (x_Rv q) 0 0 0 [some (.ref v0)] [] M := by
  unfold f_X2_beginAgain at H
  refine x_aload_n 0 0 dX2_beginAgain_0 rfl rfl ?_
  refine x_iconst 1 (0 : Int32) dX2_beginAgain_1 (by decide) ?_
  obtain ⟨h1, H⟩ := x_ckp H
  obtain ⟨M2, w3, H⟩ := x_lt_of H
  have h4 : x_tag M2 v0 = 2 + 10 := by rw [w3]; exact h1
  refine x_putI' 2 21 2 2 dX2_beginAgain_2 lk_131 (by decide) (by decide) rfl (Or.inl rfl) (Or.inl rfl) h1 w3 ?_
  refine x_aload_n 5 0 dX2_beginAgain_5 rfl rfl ?_
  refine x_iconst 6 (0 : Int32) dX2_beginAgain_6 (by decide) ?_
  obtain ⟨M5, w6, H⟩ := x_lt_of H
  have h7 : x_tag M5 v0 = 2 + 10 := by rw [w6]; exact h4
  refine x_putI' 7 24 2 3 dX2_beginAgain_7 lk_136 (by decide) (by decide) rfl (Or.inl rfl) (Or.inl rfl) h4 w6 ?_
  refine x_aload_n 10 0 dX2_beginAgain_10 rfl rfl ?_
  refine x_iconst 11 (0 : Int32) dX2_beginAgain_11 (by decide) ?_
  obtain ⟨M8, w9, H⟩ := x_lt_of H
  have h10 : x_tag M8 v0 = 2 + 10 := by rw [w9]; exact h7
  refine x_putI' 12 27 2 4 dX2_beginAgain_12 lk_139 (by decide) (by decide) rfl (Or.inl rfl) (Or.inl rfl) h7 w9 ?_
  cases H
  exact x_vret 15 dX2_beginAgain_15 rfl (Nat.le_of_ble_eq_true rfl) (Nat.le_of_ble_eq_true rfl) ⟨rfl, rfl⟩

theorem ct_X2_beginAgain (l : Launch) {v0 : Nat} {M : XM} {q : XM} (H : f_X2_beginAgain v0 M = some q) : Ct l m_X2_beginAgain 1 0 0 [(.ref v0)] M (x_Rv q) := x_met l m_X2_beginAgain 1 0 0 [(.ref v0)] M (x_Rv q) _ rfl rfl (Nat.le_of_ble_eq_true rfl) (t_X2_beginAgain l H)
theorem lk_536 : Cond.code yX2_beginAgain cX2_beginAgain 1 none ∈ x_TB := x_tb (k := 536) (by decide +kernel) rfl
theorem lk_533 : Cond.methodLink RX2 18 yX2_beginAgain ∈ x_TB := x_tb (k := 533) (by decide +kernel) rfl
theorem lk_535 : Cond.selects RX2 yX2_beginAgain yX2_beginAgain ∈ x_TB := x_tb (k := 535) (by decide +kernel) rfl
theorem lk_534 : Cond.instanceMethod yX2_beginAgain ∈ x_TB := x_tb (k := 534) (by decide +kernel) rfl
abbrev m_X2_becomeNew : XU := (yX2_becomeNew, cX2_becomeNew, 3, none)
theorem cn_X2_becomeNew : m_X2_becomeNew.1.cls ≠ "java/lang/invoke/MethodHandle" ∧ m_X2_becomeNew.1.cls ≠ "java/lang/invoke/VarHandle" ∧ (parseMethodDescriptor m_X2_becomeNew.1.desc).map (fun q => q.parameters.length) = some 2 := by decide +kernel
def f_X2_becomeNew (v0 : Nat) (v1 : Int32) (v2 : Int32) (M : XM) : Option XM :=
  if x_tag M v0 = 2 + 10 then (x_lt (x_wi M v0 0 v1) (fun M2 => x_lt (x_wi M2 v0 1 v2) (fun M5 => x_bv (f_X2_beginAgain v0 M5) (fun M8 => some M8)))) else none
set_option maxRecDepth 20000 in
set_option maxHeartbeats 4000000 in
theorem t_X2_becomeNew (l : Launch) {v0 : Nat} {v1 : Int32} {v2 : Int32} {M : XM} {q : XM} (H : f_X2_becomeNew v0 v1 v2 M = some q) : AW l m_X2_becomeNew 2 0 0 (x_Rv q) 0 0 0 [some (.ref v0), some (.int v1), some (.int v2)] [] M := by
  unfold f_X2_becomeNew at H
  refine x_aload_n 0 0 dX2_becomeNew_0 rfl rfl ?_
  refine x_iload_n 1 1 dX2_becomeNew_1 rfl rfl ?_
  obtain ⟨h1, H⟩ := x_ckp H
  obtain ⟨M2, w3, H⟩ := x_lt_of H
  have h4 : x_tag M2 v0 = 2 + 10 := by rw [w3]; exact h1
  refine x_putI' 2 9 2 0 dX2_becomeNew_2 lk_123 (by decide) (by decide) rfl (Or.inl rfl) (Or.inl rfl) h1 w3 ?_
  refine x_aload_n 5 0 dX2_becomeNew_5 rfl rfl ?_
  refine x_iload_n 6 2 dX2_becomeNew_6 rfl rfl ?_
  obtain ⟨M5, w6, H⟩ := x_lt_of H
  have h7 : x_tag M5 v0 = 2 + 10 := by rw [w6]; exact h4
  refine x_putI' 7 15 2 1 dX2_becomeNew_7 lk_126 (by decide) (by decide) rfl (Or.inl rfl) (Or.inl rfl) h4 w6 ?_
  refine x_aload_n 10 0 dX2_becomeNew_10 rfl rfl ?_
  obtain ⟨M8, e10, H⟩ := x_bv_of H
  refine x_callV 11 18 2 [] [] dX2_becomeNew_11 (ct_X2_beginAgain l e10) lk_533 lk_534 lk_535 (by decide) h7 lk_87 lk_536 ⟨cn_X2_beginAgain, (by decide), by decide⟩ rfl (Nat.le_of_ble_eq_true rfl) (Nat.le_of_ble_eq_true rfl) (Nat.le_of_ble_eq_true rfl) (x_rv ?_)
  cases H
  exact x_vret 14 dX2_becomeNew_14 rfl (Nat.le_of_ble_eq_true rfl) (Nat.le_of_ble_eq_true rfl) ⟨rfl, rfl⟩

theorem ct_X2_becomeNew (l : Launch) {v0 : Nat} {v1 : Int32} {v2 : Int32} {M : XM} {q : XM} (H : f_X2_becomeNew v0 v1 v2 M = some q) : Ct l m_X2_becomeNew 2 0 0 [(.ref v0), (.int v1), (.int v2)] M (x_Rv q) := x_met l m_X2_becomeNew 2 0 0 [(.ref v0), (.int v1), (.int v2)] M (x_Rv q) _ rfl rfl (Nat.le_of_ble_eq_true rfl) (t_X2_becomeNew l H)
abbrev m_X2_becomeLike : XU := (yX2_becomeLike, cX2_becomeLike, 2, none)
theorem cn_X2_becomeLike : m_X2_becomeLike.1.cls ≠ "java/lang/invoke/MethodHandle" ∧ m_X2_becomeLike.1.cls ≠ "java/lang/invoke/VarHandle" ∧ (parseMethodDescriptor m_X2_becomeLike.1.desc).map (fun q => q.parameters.length) = some 1 := by decide +kernel
def f_X2_becomeLike (v0 : Nat) (v1 : Nat) (M : XM) : Option XM :=
  if x_tag M v1 = 2 + 10 then (if x_tag M v0 = 2 + 10 then (x_lt (x_wi M v0 0 (x_i M v1 0)) (fun M3 => x_lt (x_wi M3 v0 1 (x_i M3 v1 1)) (fun M7 => x_lt (x_wi M7 v0 2 (x_i M7 v1 2)) (fun M11 => x_lt (x_wi M11 v0 3 (x_i M11 v1 3)) (fun M15 => x_lt (x_wi M15 v0 4 (x_i M15 v1 4)) (fun M19 => some M19)))))) else none) else none
set_option maxRecDepth 20000 in
set_option maxHeartbeats 4000000 in
theorem t_X2_becomeLike (l : Launch) {v0 : Nat} {v1 : Nat} {M : XM} {q : XM} (H : f_X2_becomeLike v0 v1 M = some q) : AW l m_X2_becomeLike 1 0 0 (x_Rv q) 0 0 0 [some (.ref v0), some (.ref v1)] [] M := by
  unfold f_X2_becomeLike at H
  refine x_aload_n 0 0 dX2_becomeLike_0 rfl rfl ?_
  refine x_aload_n 1 1 dX2_becomeLike_1 rfl rfl ?_
  obtain ⟨h1, H⟩ := x_ckp H
  refine x_getf 2 9 2 0 (.int (x_i M v1 0)) dX2_becomeLike_2 lk_123 (by decide) (by decide) rfl (fun _ => rfl) h1 ?_
  obtain ⟨h2, H⟩ := x_ckp H
  obtain ⟨M3, w4, H⟩ := x_lt_of H
  have h5 : x_tag M3 v1 = 2 + 10 := by rw [w4]; exact h1
  have h6 : x_tag M3 v0 = 2 + 10 := by rw [w4]; exact h2
  refine x_putI' 5 9 2 0 dX2_becomeLike_5 lk_123 (by decide) (by decide) rfl (Or.inl rfl) (Or.inl rfl) h2 w4 ?_
  refine x_aload_n 8 0 dX2_becomeLike_8 rfl rfl ?_
  refine x_aload_n 9 1 dX2_becomeLike_9 rfl rfl ?_
  refine x_getf 10 15 2 1 (.int (x_i M3 v1 1)) dX2_becomeLike_10 lk_126 (by decide) (by decide) rfl (fun _ => rfl) h5 ?_
  obtain ⟨M7, w8, H⟩ := x_lt_of H
  have h9 : x_tag M7 v1 = 2 + 10 := by rw [w8]; exact h5
  have h10 : x_tag M7 v0 = 2 + 10 := by rw [w8]; exact h6
  refine x_putI' 13 15 2 1 dX2_becomeLike_13 lk_126 (by decide) (by decide) rfl (Or.inl rfl) (Or.inl rfl) h6 w8 ?_
  refine x_aload_n 16 0 dX2_becomeLike_16 rfl rfl ?_
  refine x_aload_n 17 1 dX2_becomeLike_17 rfl rfl ?_
  refine x_getf 18 21 2 2 (.int (x_i M7 v1 2)) dX2_becomeLike_18 lk_131 (by decide) (by decide) rfl (fun _ => rfl) h9 ?_
  obtain ⟨M11, w12, H⟩ := x_lt_of H
  have h13 : x_tag M11 v1 = 2 + 10 := by rw [w12]; exact h9
  have h14 : x_tag M11 v0 = 2 + 10 := by rw [w12]; exact h10
  refine x_putI' 21 21 2 2 dX2_becomeLike_21 lk_131 (by decide) (by decide) rfl (Or.inl rfl) (Or.inl rfl) h10 w12 ?_
  refine x_aload_n 24 0 dX2_becomeLike_24 rfl rfl ?_
  refine x_aload_n 25 1 dX2_becomeLike_25 rfl rfl ?_
  refine x_getf 26 24 2 3 (.int (x_i M11 v1 3)) dX2_becomeLike_26 lk_136 (by decide) (by decide) rfl (fun _ => rfl) h13 ?_
  obtain ⟨M15, w16, H⟩ := x_lt_of H
  have h17 : x_tag M15 v1 = 2 + 10 := by rw [w16]; exact h13
  have h18 : x_tag M15 v0 = 2 + 10 := by rw [w16]; exact h14
  refine x_putI' 29 24 2 3 dX2_becomeLike_29 lk_136 (by decide) (by decide) rfl (Or.inl rfl) (Or.inl rfl) h14 w16 ?_
  refine x_aload_n 32 0 dX2_becomeLike_32 rfl rfl ?_
  refine x_aload_n 33 1 dX2_becomeLike_33 rfl rfl ?_
  refine x_getf 34 27 2 4 (.int (x_i M15 v1 4)) dX2_becomeLike_34 lk_139 (by decide) (by decide) rfl (fun _ => rfl) h17 ?_
  obtain ⟨M19, w20, H⟩ := x_lt_of H
  have h21 : x_tag M19 v1 = 2 + 10 := by rw [w20]; exact h17
  have h22 : x_tag M19 v0 = 2 + 10 := by rw [w20]; exact h18
  refine x_putI' 37 27 2 4 dX2_becomeLike_37 lk_139 (by decide) (by decide) rfl (Or.inl rfl) (Or.inl rfl) h18 w20 ?_
  cases H
  exact x_vret 40 dX2_becomeLike_40 rfl (Nat.le_of_ble_eq_true rfl) (Nat.le_of_ble_eq_true rfl) ⟨rfl, rfl⟩

theorem ct_X2_becomeLike (l : Launch) {v0 : Nat} {v1 : Nat} {M : XM} {q : XM} (H : f_X2_becomeLike v0 v1 M = some q) : Ct l m_X2_becomeLike 1 0 0 [(.ref v0), (.ref v1)] M (x_Rv q) := x_met l m_X2_becomeLike 1 0 0 [(.ref v0), (.ref v1)] M (x_Rv q) _ rfl rfl (Nat.le_of_ble_eq_true rfl) (t_X2_becomeLike l H)
theorem lk_710 : Cond.methodLink RX2 34 yX2_leftAt ∈ x_TB := x_tb (k := 710) (by decide +kernel) rfl
abbrev m_X2_hear : XU := (yX2_hear, cX2_hear, 2, none)
theorem cn_X2_hear : m_X2_hear.1.cls ≠ "java/lang/invoke/MethodHandle" ∧ m_X2_hear.1.cls ≠ "java/lang/invoke/VarHandle" ∧ (parseMethodDescriptor m_X2_hear.1.desc).map (fun q => q.parameters.length) = some 1 := by decide +kernel
def f_X2_hear_50 (v0 : Nat) (M : XM) : Option XM :=
  if x_tag M v0 = 2 + 10 then (if (x_i M v0 0) = (3 : Int32) then (x_lt (x_wi M v0 3 ((x_i M v0 3) + (1 : Int32))) (fun M20 => some M20)) else (some M)) else none
set_option maxRecDepth 20000 in
set_option maxHeartbeats 4000000 in
theorem t_X2_hear_50 (l : Launch) {v0 : Nat} {M : XM} {q : XM} (H : f_X2_hear_50 v0 M = some q) : AW l m_X2_hear 2 0 0 (x_Rv q) 0 0 50 [some (.ref v0), none] [] M := by
  unfold f_X2_hear_50 at H
  refine x_aload_n 50 0 dX2_hear_50 rfl rfl ?_
  obtain ⟨h18, H⟩ := x_ckp H
  refine x_getf 51 9 2 0 (.int (x_i M v0 0)) dX2_hear_51 lk_123 (by decide) (by decide) rfl (fun _ => rfl) h18 ?_
  refine x_iconst 54 (3 : Int32) dX2_hear_54 (by decide) ?_
  refine x_icmp_ne 55 68 dX2_hear_55 (by decide) (fun c19 => ?_) (fun c19 => ?_)
  · replace H := x_ifn c19 H
    cases H
    exact x_vret 68 dX2_hear_68 rfl (Nat.le_of_ble_eq_true rfl) (Nat.le_of_ble_eq_true rfl) ⟨rfl, rfl⟩
  · replace H := x_ifp c19 H
    refine x_aload_n 58 0 dX2_hear_58 rfl rfl ?_
    refine x_dup 59 dX2_hear_59 rfl ?_
    refine x_getf 60 24 2 3 (.int (x_i M v0 3)) dX2_hear_60 lk_136 (by decide) (by decide) rfl (fun _ => rfl) h18 ?_
    refine x_iconst 63 (1 : Int32) dX2_hear_63 (by decide) ?_
    refine x_iadd 64 dX2_hear_64 ?_
    obtain ⟨M20, w21, H⟩ := x_lt_of H
    have h22 : x_tag M20 v0 = 2 + 10 := by rw [w21]; exact h18
    refine x_putI' 65 24 2 3 dX2_hear_65 lk_136 (by decide) (by decide) rfl (Or.inl rfl) (Or.inl rfl) h18 w21 ?_
    cases H
    exact x_vret 68 dX2_hear_68 rfl (Nat.le_of_ble_eq_true rfl) (Nat.le_of_ble_eq_true rfl) ⟨rfl, rfl⟩

def f_X2_hear_c21 (v0 : Nat) (s1 : Nat) (s0 : Int32) (M : XM) : Option XM :=
  if x_tag M s1 = 2 + 10 then (x_lt (x_wi M s1 2 s0) (fun M9 => if x_tag M9 v0 = 2 + 10 then (if (x_i M9 v0 0) = (2 : Int32) then (x_lt (x_wi M9 v0 3 ((x_i M9 v0 3) + ((x_i M9 v0 1) + (1 : Int32)))) (fun M14 => f_X2_hear_50 v0 M14)) else (f_X2_hear_50 v0 M9)) else none)) else none
set_option maxRecDepth 20000 in
set_option maxHeartbeats 4000000 in
theorem t_X2_hear_c21 (l : Launch) {v0 : Nat} {s1 : Nat} {s0 : Int32} {M : XM} {q : XM} (H : f_X2_hear_c21 v0 s1 s0 M = some q) : AW l m_X2_hear 2 0 0 (x_Rv q) 0 0 24 [some (.ref v0), none] [(.int s0), (.ref s1)] M := by
  unfold f_X2_hear_c21 at H
  obtain ⟨h8, H⟩ := x_ckp H
  obtain ⟨M9, w10, H⟩ := x_lt_of H
  have h11 : x_tag M9 s1 = 2 + 10 := by rw [w10]; exact h8
  refine x_putI' 24 21 2 2 dX2_hear_24 lk_131 (by decide) (by decide) rfl (Or.inl rfl) (Or.inl rfl) h8 w10 ?_
  refine x_aload_n 27 0 dX2_hear_27 rfl rfl ?_
  obtain ⟨h12, H⟩ := x_ckp H
  refine x_getf 28 9 2 0 (.int (x_i M9 v0 0)) dX2_hear_28 lk_123 (by decide) (by decide) rfl (fun _ => rfl) h12 ?_
  refine x_iconst 31 (2 : Int32) dX2_hear_31 (by decide) ?_
  refine x_icmp_ne 32 50 dX2_hear_32 (by decide) (fun c13 => ?_) (fun c13 => ?_)
  · replace H := x_ifn c13 H
    exact t_X2_hear_50 l H
  · replace H := x_ifp c13 H
    refine x_aload_n 35 0 dX2_hear_35 rfl rfl ?_
    refine x_dup 36 dX2_hear_36 rfl ?_
    refine x_getf 37 24 2 3 (.int (x_i M9 v0 3)) dX2_hear_37 lk_136 (by decide) (by decide) rfl (fun _ => rfl) h12 ?_
    refine x_aload_n 40 0 dX2_hear_40 rfl rfl ?_
    refine x_getf 41 15 2 1 (.int (x_i M9 v0 1)) dX2_hear_41 lk_126 (by decide) (by decide) rfl (fun _ => rfl) h12 ?_
    refine x_iconst 44 (1 : Int32) dX2_hear_44 (by decide) ?_
    refine x_iadd 45 dX2_hear_45 ?_
    refine x_iadd 46 dX2_hear_46 ?_
    obtain ⟨M14, w15, H⟩ := x_lt_of H
    have h16 : x_tag M14 s1 = 2 + 10 := by rw [w15]; exact h11
    have h17 : x_tag M14 v0 = 2 + 10 := by rw [w15]; exact h12
    refine x_putI' 47 24 2 3 dX2_hear_47 lk_136 (by decide) (by decide) rfl (Or.inl rfl) (Or.inl rfl) h12 w15 ?_
    exact t_X2_hear_50 l H

def f_X2_hear (v0 : Nat) (v1 : Int32) (M : XM) : Option XM :=
  if x_tag M v0 = 2 + 10 then (x_lt (x_wi M v0 4 ((x_i M v0 4) + (1 : Int32))) (fun M2 => x_bd (f_X2_leftAt v0 (x_i M2 v0 2) (x_i M2 v0 4) v1 M2) (f_X2_hear_c21 v0 v0))) else none
set_option maxRecDepth 20000 in
set_option maxHeartbeats 4000000 in
theorem t_X2_hear (l : Launch) {v0 : Nat} {v1 : Int32} {M : XM} {q : XM} (H : f_X2_hear v0 v1 M = some q) : AW l m_X2_hear 2 0 0 (x_Rv q) 0 0 0 [some (.ref v0), some (.int v1)] [] M := by
  unfold f_X2_hear at H
  refine x_aload_n 0 0 dX2_hear_0 rfl rfl ?_
  refine x_dup 1 dX2_hear_1 rfl ?_
  obtain ⟨h1, H⟩ := x_ckp H
  refine x_getf 2 27 2 4 (.int (x_i M v0 4)) dX2_hear_2 lk_139 (by decide) (by decide) rfl (fun _ => rfl) h1 ?_
  refine x_iconst 5 (1 : Int32) dX2_hear_5 (by decide) ?_
  refine x_iadd 6 dX2_hear_6 ?_
  obtain ⟨M2, w3, H⟩ := x_lt_of H
  have h4 : x_tag M2 v0 = 2 + 10 := by rw [w3]; exact h1
  refine x_putI' 7 27 2 4 dX2_hear_7 lk_139 (by decide) (by decide) rfl (Or.inl rfl) (Or.inl rfl) h1 w3 ?_
  refine x_aload_n 10 0 dX2_hear_10 rfl rfl ?_
  refine x_aload_n 11 0 dX2_hear_11 rfl rfl ?_
  refine x_aload_n 12 0 dX2_hear_12 rfl rfl ?_
  refine x_getf 13 21 2 2 (.int (x_i M2 v0 2)) dX2_hear_13 lk_131 (by decide) (by decide) rfl (fun _ => rfl) h4 ?_
  refine x_aload_n 16 0 dX2_hear_16 rfl rfl ?_
  refine x_getf 17 27 2 4 (.int (x_i M2 v0 4)) dX2_hear_17 lk_139 (by decide) (by decide) rfl (fun _ => rfl) h4 ?_
  refine x_iload_n 20 1 dX2_hear_20 rfl rfl ?_
  obtain ⟨r6, M5, e7, H⟩ := x_bd_of H
  refine x_callV 21 34 2 [(.int (x_i M2 v0 2)), (.int (x_i M2 v0 4)), (.int v1)] [(.ref v0)] dX2_hear_21 (ct_X2_leftAt l e7) lk_710 lk_711 lk_712 (by decide) h4 lk_87 lk_713 ⟨cn_X2_leftAt, (by decide), by decide⟩ rfl (Nat.le_of_ble_eq_true rfl) (Nat.le_of_ble_eq_true rfl) (Nat.le_of_ble_eq_true rfl) (x_ri ?_)
  exact x_wk (le_s (le_n le_0)) (t_X2_hear_c21 l H)

theorem ct_X2_hear (l : Launch) {v0 : Nat} {v1 : Int32} {M : XM} {q : XM} (H : f_X2_hear v0 v1 M = some q) : Ct l m_X2_hear 2 0 0 [(.ref v0), (.int v1)] M (x_Rv q) := x_met l m_X2_hear 2 0 0 [(.ref v0), (.int v1)] M (x_Rv q) _ rfl rfl (Nat.le_of_ble_eq_true rfl) (t_X2_hear l H)
abbrev m_X2_saysAs : XU := (yX2_saysAs, cX2_saysAs, 3, (some .int))
theorem cn_X2_saysAs : m_X2_saysAs.1.cls ≠ "java/lang/invoke/MethodHandle" ∧ m_X2_saysAs.1.cls ≠ "java/lang/invoke/VarHandle" ∧ (parseMethodDescriptor m_X2_saysAs.1.desc).map (fun q => q.parameters.length) = some 2 := by decide +kernel
def f_X2_saysAs_c49 (s1 : Int32) (s0 : Int32) (M : XM) : Option (Int32 × XM) :=
  some ((s1 - s0), M)
set_option maxRecDepth 20000 in
set_option maxHeartbeats 4000000 in
theorem t_X2_saysAs_c49 (l : Launch) {s1 : Int32} {s0 : Int32} {M : XM} {q : Int32 × XM} (H : f_X2_saysAs_c49 s1 s0 M = some q) : AW l m_X2_saysAs 2 0 0 (x_Ri q) 0 0 52 [none, none, none] [(.int s0), (.int s1)] M := by
  unfold f_X2_saysAs_c49 at H
  refine x_isub 52 dX2_saysAs_52 ?_
  cases H
  exact x_iret 53 dX2_saysAs_53 .int rfl rfl (Nat.le_of_ble_eq_true rfl) (Nat.le_of_ble_eq_true rfl) ⟨rfl, rfl⟩

def f_X2_saysAs_40 (v0 : Nat) (v2 : Int32) (M : XM) : Option (Int32 × XM) :=
  if x_tag M v0 = 2 + 10 then (x_bd (f_X8_leftOver (x_i M v0 2) v2 M) (f_X2_saysAs_c49 (x_i M v0 2))) else none
set_option maxRecDepth 20000 in
set_option maxHeartbeats 4000000 in
theorem t_X2_saysAs_40 (l : Launch) {v0 : Nat} {v2 : Int32} {M : XM} {q : Int32 × XM} (H : f_X2_saysAs_40 v0 v2 M = some q) : AW l m_X2_saysAs 2 0 0 (x_Ri q) 0 0 40 [some (.ref v0), none, some (.int v2)] [] M := by
  unfold f_X2_saysAs_40 at H
  refine x_aload_n 40 0 dX2_saysAs_40 rfl rfl ?_
  obtain ⟨h2, H⟩ := x_ckp H
  refine x_getf 41 21 2 2 (.int (x_i M v0 2)) dX2_saysAs_41 lk_131 (by decide) (by decide) rfl (fun _ => rfl) h2 ?_
  refine x_aload_n 44 0 dX2_saysAs_44 rfl rfl ?_
  refine x_getf 45 21 2 2 (.int (x_i M v0 2)) dX2_saysAs_45 lk_131 (by decide) (by decide) rfl (fun _ => rfl) h2 ?_
  refine x_iload_n 48 2 dX2_saysAs_48 rfl rfl ?_
  obtain ⟨r4, M3, e5, H⟩ := x_bd_of H
  refine x_callSN 49 38 [(.int (x_i M v0 2)), (.int v2)] [(.int (x_i M v0 2))] dX2_saysAs_49 (ct_X8_leftOver l e5) (List.mem_of_getElem? (i := 9) rfl) lk_515 lk_85 lk_516 ⟨cn_X8_leftOver, (by decide), by decide⟩ rfl (Nat.le_of_ble_eq_true rfl) (Nat.le_of_ble_eq_true rfl) (Nat.le_of_ble_eq_true rfl) (x_ri ?_)
  exact x_wk (le_n (le_s (le_n le_0))) (t_X2_saysAs_c49 l H)

def f_X2_saysAs_54 (v0 : Nat) (M : XM) : Option (Int32 × XM) :=
  if x_tag M v0 = 2 + 10 then (some (((x_i M v0 2) + (x_i M v0 3)), M)) else none
set_option maxRecDepth 20000 in
set_option maxHeartbeats 4000000 in
theorem t_X2_saysAs_54 (l : Launch) {v0 : Nat} {M : XM} {q : Int32 × XM} (H : f_X2_saysAs_54 v0 M = some q) : AW l m_X2_saysAs 2 0 0 (x_Ri q) 0 0 54 [some (.ref v0), none, none] [] M := by
  unfold f_X2_saysAs_54 at H
  refine x_aload_n 54 0 dX2_saysAs_54 rfl rfl ?_
  obtain ⟨h7, H⟩ := x_ckp H
  refine x_getf 55 21 2 2 (.int (x_i M v0 2)) dX2_saysAs_55 lk_131 (by decide) (by decide) rfl (fun _ => rfl) h7 ?_
  refine x_aload_n 58 0 dX2_saysAs_58 rfl rfl ?_
  refine x_getf 59 24 2 3 (.int (x_i M v0 3)) dX2_saysAs_59 lk_136 (by decide) (by decide) rfl (fun _ => rfl) h7 ?_
  refine x_iadd 62 dX2_saysAs_62 ?_
  cases H
  exact x_iret 63 dX2_saysAs_63 .int rfl rfl (Nat.le_of_ble_eq_true rfl) (Nat.le_of_ble_eq_true rfl) ⟨rfl, rfl⟩

def f_X2_saysAs (v0 : Nat) (v1 : Int32) (v2 : Int32) (M : XM) : Option (Int32 × XM) :=
  if v1 = (1 : Int32) then (f_X2_saysAs_40 v0 v2 M) else if v1 = (2 : Int32) then (f_X2_saysAs_54 v0 M) else if v1 = (3 : Int32) then (f_X2_saysAs_54 v0 M) else if v1 = (4 : Int32) then (if x_tag M v0 = 2 + 10 then (some ((x_i M v0 4), M)) else none) else if v1 = (5 : Int32) then (f_X2_saysAs_40 v0 v2 M) else if v1 = (6 : Int32) then (if x_tag M v0 = 2 + 10 then (some (((x_i M v0 2) / (2 : Int32)), M)) else none) else if x_tag M v0 = 2 + 10 then (some ((x_i M v0 2), M)) else none
set_option maxRecDepth 20000 in
set_option maxHeartbeats 4000000 in
theorem t_X2_saysAs (l : Launch) {v0 : Nat} {v1 : Int32} {v2 : Int32} {M : XM} {q : Int32 × XM} (H : f_X2_saysAs v0 v1 v2 M = some q) : AW l m_X2_saysAs 2 0 0 (x_Ri q) 0 0 0 [some (.ref v0), some (.int v1), some (.int v2)] [] M := by
  unfold f_X2_saysAs at H
  refine x_iload_n 0 1 dX2_saysAs_0 rfl rfl ?_
  by_cases c1 : v1 = (1 : Int32)
  · replace H := x_ifp c1 H
    refine x_tableIn (off := 39) 1 40 dX2_saysAs_1 (by rw [c1]; decide) (by rw [c1]; decide) (by rw [c1]; rfl) (by decide) ?_
    exact x_wk (le_s (le_n (le_s le_0))) (t_X2_saysAs_40 l H)
  · replace H := x_ifn c1 H
    by_cases c6 : v1 = (2 : Int32)
    · replace H := x_ifp c6 H
      refine x_tableIn (off := 53) 1 54 dX2_saysAs_1 (by rw [c6]; decide) (by rw [c6]; decide) (by rw [c6]; rfl) (by decide) ?_
      exact x_wk (le_s (le_n (le_n le_0))) (t_X2_saysAs_54 l H)
    · replace H := x_ifn c6 H
      by_cases c8 : v1 = (3 : Int32)
      · replace H := x_ifp c8 H
        refine x_tableIn (off := 53) 1 54 dX2_saysAs_1 (by rw [c8]; decide) (by rw [c8]; decide) (by rw [c8]; rfl) (by decide) ?_
        exact x_wk (le_s (le_n (le_n le_0))) (t_X2_saysAs_54 l H)
      · replace H := x_ifn c8 H
        by_cases c9 : v1 = (4 : Int32)
        · replace H := x_ifp c9 H
          refine x_tableIn (off := 63) 1 64 dX2_saysAs_1 (by rw [c9]; decide) (by rw [c9]; decide) (by rw [c9]; rfl) (by decide) ?_
          refine x_aload_n 64 0 dX2_saysAs_64 rfl rfl ?_
          obtain ⟨h10, H⟩ := x_ckp H
          refine x_getf 65 27 2 4 (.int (x_i M v0 4)) dX2_saysAs_65 lk_139 (by decide) (by decide) rfl (fun _ => rfl) h10 ?_
          cases H
          exact x_iret 68 dX2_saysAs_68 .int rfl rfl (Nat.le_of_ble_eq_true rfl) (Nat.le_of_ble_eq_true rfl) ⟨rfl, rfl⟩
        · replace H := x_ifn c9 H
          by_cases c11 : v1 = (5 : Int32)
          · replace H := x_ifp c11 H
            refine x_tableIn (off := 39) 1 40 dX2_saysAs_1 (by rw [c11]; decide) (by rw [c11]; decide) (by rw [c11]; rfl) (by decide) ?_
            exact x_wk (le_s (le_n (le_s le_0))) (t_X2_saysAs_40 l H)
          · replace H := x_ifn c11 H
            by_cases c12 : v1 = (6 : Int32)
            · replace H := x_ifp c12 H
              refine x_tableIn (off := 68) 1 69 dX2_saysAs_1 (by rw [c12]; decide) (by rw [c12]; decide) (by rw [c12]; rfl) (by decide) ?_
              refine x_aload_n 69 0 dX2_saysAs_69 rfl rfl ?_
              obtain ⟨h13, H⟩ := x_ckp H
              refine x_getf 70 21 2 2 (.int (x_i M v0 2)) dX2_saysAs_70 lk_131 (by decide) (by decide) rfl (fun _ => rfl) h13 ?_
              refine x_iconst 73 (2 : Int32) dX2_saysAs_73 (by decide) ?_
              refine x_idiv 74 dX2_saysAs_74 (by decide) ?_
              cases H
              exact x_iret 75 dX2_saysAs_75 .int rfl rfl (Nat.le_of_ble_eq_true rfl) (Nat.le_of_ble_eq_true rfl) ⟨rfl, rfl⟩
            · replace H := x_ifn c12 H
              refine x_tableOut 1 76 dX2_saysAs_1 (by have n0 := lv_neT (a := 1) c1 (by decide); have n1 := lv_neT (a := 2) c6 (by decide); have n2 := lv_neT (a := 3) c8 (by decide); have n3 := lv_neT (a := 4) c9 (by decide); have n4 := lv_neT (a := 5) c11 (by decide); have n5 := lv_neT (a := 6) c12 (by decide); omega) (by decide) ?_
              refine x_aload_n 76 0 dX2_saysAs_76 rfl rfl ?_
              obtain ⟨h14, H⟩ := x_ckp H
              refine x_getf 77 21 2 2 (.int (x_i M v0 2)) dX2_saysAs_77 lk_131 (by decide) (by decide) rfl (fun _ => rfl) h14 ?_
              cases H
              exact x_iret 80 dX2_saysAs_80 .int rfl rfl (Nat.le_of_ble_eq_true rfl) (Nat.le_of_ble_eq_true rfl) ⟨rfl, rfl⟩

theorem ct_X2_saysAs (l : Launch) {v0 : Nat} {v1 : Int32} {v2 : Int32} {M : XM} {q : Int32 × XM} (H : f_X2_saysAs v0 v1 v2 M = some q) : Ct l m_X2_saysAs 2 0 0 [(.ref v0), (.int v1), (.int v2)] M (x_Ri q) := x_met l m_X2_saysAs 2 0 0 [(.ref v0), (.int v1), (.int v2)] M (x_Ri q) _ rfl rfl (Nat.le_of_ble_eq_true rfl) (t_X2_saysAs l H)
theorem lk_304 : Cond.methodLink RX3 3 Lib.objectInit ∈ x_TB := x_tb (k := 304) (by decide +kernel) rfl
theorem lk_305 : Cond.fieldLink RX3 9 RX3 "row" "[I" ∈ x_TB := x_tb (k := 305) (by decide +kernel) rfl
theorem lk_306 : Cond.fieldLink RX3 15 RX3 "next" "[I" ∈ x_TB := x_tb (k := 306) (by decide +kernel) rfl
abbrev m_X3_init : XU := (yX3_init, cX3_init, 1, none)
theorem cn_X3_init : m_X3_init.1.cls ≠ "java/lang/invoke/MethodHandle" ∧ m_X3_init.1.cls ≠ "java/lang/invoke/VarHandle" ∧ (parseMethodDescriptor m_X3_init.1.desc).map (fun q => q.parameters.length) = some 0 := by decide +kernel
def f_X3_init (v0 : Nat) (M : XM) : Option XM :=
  if x_tag M v0 = 3 + 10 then (x_al M 1 201 (fun a3 M2 => if x_tag M2 v0 = 3 + 10 then (x_lt (x_wr M2 v0 0 a3) (fun M8 => x_al M8 1 201 (fun a13 M12 => if x_tag M12 v0 = 3 + 10 then (x_lt (x_wr M12 v0 1 a13) (fun M18 => some M18)) else none))) else none)) else none
set_option maxRecDepth 20000 in
set_option maxHeartbeats 4000000 in
theorem t_X3_init (l : Launch) {v0 : Nat} {M : XM} {q : XM} (H : f_X3_init v0 M = some q) : AW l m_X3_init 1 2 402 (x_Rv q) 0 0 0 [some (.ref v0)] [] M := by
  unfold f_X3_init at H
  refine x_aload_n 0 0 dX3_init_0 rfl rfl ?_
  obtain ⟨h1, H⟩ := x_ckp H
  refine x_objInit 1 3 dX3_init_1 lk_304 lk_108 lk_109 h1 rfl (Nat.le_of_ble_eq_true rfl) (by decide) ?_
  refine x_aload_n 4 0 dX3_init_4 rfl rfl ?_
  refine x_sipush 5 (201 : Int32) dX3_init_5 (by decide) ?_
  obtain ⟨a3, M2, w4, w5, H⟩ := x_al_of H
  refine x_newI' 8 201 dX3_init_8 lk_153 (by decide) (by decide) (by decide) (Nat.le_of_ble_eq_true rfl) (Nat.le_of_ble_eq_true rfl) w4 w5 ?_
  have h6 : x_tag M2 a3 = 1 := x_al_tag w4 w5
  change AW _ _ _ _ _ _ 1 201 _ _ _ _
  obtain ⟨h7, H⟩ := x_ckp H
  obtain ⟨M8, w9, H⟩ := x_lt_of H
  have h10 : x_tag M8 a3 = 1 := by rw [w9]; exact h6
  have h11 : x_tag M8 v0 = 3 + 10 := by rw [w9]; exact h7
  refine x_putR' 10 9 3 0 dX3_init_10 lk_305 (by decide) (by decide) rfl (Or.inr ⟨_, rfl⟩) (Or.inl rfl) h7 w9 ?_
  refine x_aload_n 13 0 dX3_init_13 rfl rfl ?_
  refine x_sipush 14 (201 : Int32) dX3_init_14 (by decide) ?_
  obtain ⟨a13, M12, w14, w15, H⟩ := x_al_of H
  refine x_newI' 17 201 dX3_init_17 lk_153 (by decide) (by decide) (by decide) (Nat.le_of_ble_eq_true rfl) (Nat.le_of_ble_eq_true rfl) w14 w15 ?_
  have h16 : x_tag M12 a13 = 1 := x_al_tag w14 w15
  change AW _ _ _ _ _ _ 2 402 _ _ _ _
  obtain ⟨h17, H⟩ := x_ckp H
  obtain ⟨M18, w19, H⟩ := x_lt_of H
  have h20 : x_tag M18 a13 = 1 := by rw [w19]; exact h16
  have h21 : x_tag M18 v0 = 3 + 10 := by rw [w19]; exact h17
  refine x_putR' 19 15 3 1 dX3_init_19 lk_306 (by decide) (by decide) rfl (Or.inr ⟨_, rfl⟩) (Or.inl rfl) h17 w19 ?_
  cases H
  exact x_vret 22 dX3_init_22 rfl (Nat.le_of_ble_eq_true rfl) (Nat.le_of_ble_eq_true rfl) ⟨rfl, rfl⟩

theorem ct_X3_init (l : Launch) {v0 : Nat} {M : XM} {q : XM} (H : f_X3_init v0 M = some q) : Ct l m_X3_init 1 2 402 [(.ref v0)] M (x_Rv q) := x_met l m_X3_init 1 2 402 [(.ref v0)] M (x_Rv q) _ rfl rfl (Nat.le_of_ble_eq_true rfl) (t_X3_init l H)
theorem lk_155 : Cond.fieldLink RX3 18 RX4 "counters" "[LWhatDidYouSay$Counter;" ∈ x_TB := x_tb (k := 155) (by decide +kernel) rfl
theorem lk_130 : Cond.fieldLink RX3 49 RX2 "at" "I" ∈ x_TB := x_tb (k := 130) (by decide +kernel) rfl
theorem lk_164 : Cond.fieldLink RX3 24 RX4 "n" "I" ∈ x_TB := x_tb (k := 164) (by decide +kernel) rfl
abbrev m_X3_swap : XU := (yX3_swap, cX3_swap, 2, none)
theorem cn_X3_swap : m_X3_swap.1.cls ≠ "java/lang/invoke/MethodHandle" ∧ m_X3_swap.1.cls ≠ "java/lang/invoke/VarHandle" ∧ (parseMethodDescriptor m_X3_swap.1.desc).map (fun q => q.parameters.length) = some 0 := by decide +kernel
def f_X3_swap (v0 : Nat) (M : XM) : Option XM :=
  if x_tag M v0 = 3 + 10 then (x_lt (x_wr M v0 0 (x_r M v0 1)) (fun M2 => x_lt (x_wr M2 v0 1 (x_r M v0 0)) (fun M5 => some M5))) else none
set_option maxRecDepth 20000 in
set_option maxHeartbeats 4000000 in
theorem t_X3_swap (l : Launch) {v0 : Nat} {M : XM} {q : XM} (H : f_X3_swap v0 M = some q) : AW l m_X3_swap 1 0 0 (x_Rv q) 0 0 0 [some (.ref v0), none] [] M := by
  unfold f_X3_swap at H
  refine x_aload_n 0 0 dX3_swap_0 rfl rfl ?_
  obtain ⟨h1, H⟩ := x_ckp H
  refine x_getf 1 9 3 0 (.ref (x_r M v0 0)) dX3_swap_1 lk_305 (by decide) (by decide) rfl (fun _ => rfl) h1 ?_
  refine x_astore_n 4 1 [some (.ref v0), some (.ref (x_r M v0 0))] dX3_swap_4 rfl rfl (Nat.le_of_ble_eq_true rfl) rfl ?_
  refine x_aload_n 5 0 dX3_swap_5 rfl rfl ?_
  refine x_aload_n 6 0 dX3_swap_6 rfl rfl ?_
  refine x_getf 7 15 3 1 (.ref (x_r M v0 1)) dX3_swap_7 lk_306 (by decide) (by decide) rfl (fun _ => rfl) h1 ?_
  obtain ⟨M2, w3, H⟩ := x_lt_of H
  have h4 : x_tag M2 v0 = 3 + 10 := by rw [w3]; exact h1
  refine x_putR' 10 9 3 0 dX3_swap_10 lk_305 (by decide) (by decide) rfl (Or.inr ⟨_, rfl⟩) (Or.inl rfl) h1 w3 ?_
  refine x_aload_n 13 0 dX3_swap_13 rfl rfl ?_
  refine x_aload_n 14 1 dX3_swap_14 rfl rfl ?_
  obtain ⟨M5, w6, H⟩ := x_lt_of H
  have h7 : x_tag M5 v0 = 3 + 10 := by rw [w6]; exact h4
  refine x_putR' 15 15 3 1 dX3_swap_15 lk_306 (by decide) (by decide) rfl (Or.inr ⟨_, rfl⟩) (Or.inl rfl) h4 w6 ?_
  cases H
  exact x_vret 18 dX3_swap_18 rfl (Nat.le_of_ble_eq_true rfl) (Nat.le_of_ble_eq_true rfl) ⟨rfl, rfl⟩

theorem ct_X3_swap (l : Launch) {v0 : Nat} {M : XM} {q : XM} (H : f_X3_swap v0 M = some q) : Ct l m_X3_swap 1 0 0 [(.ref v0)] M (x_Rv q) := x_met l m_X3_swap 1 0 0 [(.ref v0)] M (x_Rv q) _ rfl rfl (Nat.le_of_ble_eq_true rfl) (t_X3_swap l H)
theorem lk_91 : Cond.initialized RX3 ∈ x_TB := x_tb (k := 91) (by decide +kernel) rfl
theorem lk_849 : Cond.code yX3_swap cX3_swap 2 none ∈ x_TB := x_tb (k := 849) (by decide +kernel) rfl
theorem lk_846 : Cond.methodLink RX3 46 yX3_swap ∈ x_TB := x_tb (k := 846) (by decide +kernel) rfl
theorem lk_24 : Cond.selects RX3 yX3_swap yX3_swap ∈ x_TB := x_tb (k := 24) (by decide +kernel) rfl
theorem lk_848 : Cond.instanceMethod yX3_swap ∈ x_TB := x_tb (k := 848) (by decide +kernel) rfl
theorem lk_138 : Cond.fieldLink RX3 28 RX2 "heard" "I" ∈ x_TB := x_tb (k := 138) (by decide +kernel) rfl
theorem lk_170 : Cond.fieldLink RX3 33 RX4 "apart" "I" ∈ x_TB := x_tb (k := 170) (by decide +kernel) rfl
theorem lk_844 : Cond.methodLink RX3 36 yX2_leftAt ∈ x_TB := x_tb (k := 844) (by decide +kernel) rfl
theorem lk_845 : Cond.methodLink RX3 40 Lib.Math.max.name ∈ x_TB := x_tb (k := 845) (by decide +kernel) rfl
theorem lk_660 : Cond.static Lib.Math.max.name ∈ x_TB := x_tb (k := 660) (by decide +kernel) rfl
theorem lk_661 : Cond.code Lib.Math.max.name Lib.Math.max.code 2 (some .int) ∈ x_TB := x_tb (k := 661) (by decide +kernel) rfl
abbrev m_X3_most : XU := (yX3_most, cX3_most, 8, (some .int))
theorem cn_X3_most : m_X3_most.1.cls ≠ "java/lang/invoke/MethodHandle" ∧ m_X3_most.1.cls ≠ "java/lang/invoke/VarHandle" ∧ (parseMethodDescriptor m_X3_most.1.desc).map (fun q => q.parameters.length) = some 3 := by decide +kernel
def f_X3_most_c107 (κ11 : Nat → Nat → Int32 → Nat → Int32 → XM → Option (Int32 × XM)) (v0 : Nat) (v1 : Nat) (v3 : Int32) (v4 : Nat) (v5 : Int32) (M : XM) : Option (Int32 × XM) :=
  κ11 v0 v1 v3 v4 (v5 + (-1 : Int32)) M
set_option maxRecDepth 20000 in
set_option maxHeartbeats 4000000 in
theorem t_X3_most_c107 (l : Launch) {κ11 : Nat → Nat → Int32 → Nat → Int32 → XM → Option (Int32 × XM)} {v0 : Nat} {v1 : Nat} {v3 : Int32} {v4 : Nat} {v5 : Int32} {M : XM} {q : Int32 × XM} (hκ11 : ∀ (v0 : Nat) (v1 : Nat) (v3 : Int32) (v4 : Nat) (v5 : Int32) (M : XM), κ11 v0 v1 v3 v4 v5 M = some q → AW l m_X3_most 2 0 0 (x_Ri q) 0 0 11 [some (.ref v0), some (.ref v1), none, some (.int v3), some (.ref v4), some (.int v5), none, none] [] M) (H : f_X3_most_c107 κ11 v0 v1 v3 v4 v5 M = some q) : AW l m_X3_most 2 0 0 (x_Ri q) 0 0 110 [some (.ref v0), some (.ref v1), none, some (.int v3), some (.ref v4), some (.int v5), none, none] [] M := by
  unfold f_X3_most_c107 at H
  refine x_iinc 110 5 (v5 + (-1 : Int32)) [some (.ref v0), some (.ref v1), none, some (.int v3), some (.ref v4), some (.int (v5 + (-1 : Int32))), none, none] dX3_most_110 rfl (congrArg (fun z : Int32 => v5 + z) (show Int32.ofInt (-1) = (-1 : Int32) by decide)) rfl (Nat.le_of_ble_eq_true rfl) rfl ?_
  refine x_goto 113 11 dX3_most_113 (by decide) ?_
  exact hκ11 _ _ _ _ _ _ H

def f_X3_most_89 (κ11 : Nat → Nat → Int32 → Nat → Int32 → XM → Option (Int32 × XM)) (κ34 : Nat → Nat → Int32 → Nat → Int32 → Int32 → XM → Option (Int32 × XM)) (v0 : Nat) (v1 : Nat) (v3 : Int32) (v4 : Nat) (v5 : Int32) (v6 : Int32) (v7 : Int32) (M : XM) : Option (Int32 × XM) :=
  if x_tag M v0 = 3 + 10 then (if x_at M (x_r M v0 1) 1 v6 = true then (x_lt (x_wi M (x_r M v0 1) v6.toNatClampNeg (v7 + (1 : Int32))) (fun M26 => κ34 v0 v1 v3 v4 v5 (v6 + (-1 : Int32)) M26)) else none) else none
set_option maxRecDepth 20000 in
set_option maxHeartbeats 4000000 in
theorem t_X3_most_89 (l : Launch) {κ11 : Nat → Nat → Int32 → Nat → Int32 → XM → Option (Int32 × XM)} {κ34 : Nat → Nat → Int32 → Nat → Int32 → Int32 → XM → Option (Int32 × XM)} {v0 : Nat} {v1 : Nat} {v3 : Int32} {v4 : Nat} {v5 : Int32} {v6 : Int32} {v7 : Int32} {M : XM} {q : Int32 × XM} (hκ11 : ∀ (v0 : Nat) (v1 : Nat) (v3 : Int32) (v4 : Nat) (v5 : Int32) (M : XM), κ11 v0 v1 v3 v4 v5 M = some q → AW l m_X3_most 2 0 0 (x_Ri q) 0 0 11 [some (.ref v0), some (.ref v1), none, some (.int v3), some (.ref v4), some (.int v5), none, none] [] M) (hκ34 : ∀ (v0 : Nat) (v1 : Nat) (v3 : Int32) (v4 : Nat) (v5 : Int32) (v6 : Int32) (M : XM), κ34 v0 v1 v3 v4 v5 v6 M = some q → AW l m_X3_most 2 0 0 (x_Ri q) 0 0 34 [some (.ref v0), some (.ref v1), none, some (.int v3), some (.ref v4), some (.int v5), some (.int v6), none] [] M) (H : f_X3_most_89 κ11 κ34 v0 v1 v3 v4 v5 v6 v7 M = some q) : AW l m_X3_most 2 0 0 (x_Ri q) 0 0 89 [some (.ref v0), some (.ref v1), none, some (.int v3), some (.ref v4), some (.int v5), some (.int v6), some (.int v7)] [] M := by
  unfold f_X3_most_89 at H
  refine x_aload_n 89 0 dX3_most_89 rfl rfl ?_
  obtain ⟨h24, H⟩ := x_ckp H
  refine x_getf 90 15 3 1 (.ref (x_r M v0 1)) dX3_most_90 lk_306 (by decide) (by decide) rfl (fun _ => rfl) h24 ?_
  refine x_iload 93 6 dX3_most_93 rfl ?_
  refine x_iload 95 7 dX3_most_95 rfl ?_
  refine x_iconst 97 (1 : Int32) dX3_most_97 (by decide) ?_
  refine x_iadd 98 dX3_most_98 ?_
  obtain ⟨h25, H⟩ := x_ckp H
  obtain ⟨M26, w27, H⟩ := x_lt_of H
  have h28 : x_tag M26 v0 = 3 + 10 := by rw [w27]; exact h24
  have h29 : x_at M26 (x_r M v0 1) 1 v6 = true := by rw [w27]; exact h25
  have h30 : x_tag M26 (x_r M v0 1) = 1 := by rw [w27]; exact (x_at_1 h25)
  refine x_iast' 99 dX3_most_99 h25 w27 ?_
  refine x_iinc 100 6 (v6 + (-1 : Int32)) [some (.ref v0), some (.ref v1), none, some (.int v3), some (.ref v4), some (.int v5), some (.int (v6 + (-1 : Int32))), some (.int v7)] dX3_most_100 rfl (congrArg (fun z : Int32 => v6 + z) (show Int32.ofInt (-1) = (-1 : Int32) by decide)) rfl (Nat.le_of_ble_eq_true rfl) rfl ?_
  refine x_goto 103 34 dX3_most_103 (by decide) ?_
  exact x_wk (le_s (le_s (le_s (le_s (le_s (le_s (le_s (le_n le_0)))))))) (hκ34 _ _ _ _ _ _ _ H)

def f_X3_most_c80 (κ11 : Nat → Nat → Int32 → Nat → Int32 → XM → Option (Int32 × XM)) (κ34 : Nat → Nat → Int32 → Nat → Int32 → Int32 → XM → Option (Int32 × XM)) (v0 : Nat) (v1 : Nat) (v3 : Int32) (v4 : Nat) (v5 : Int32) (v6 : Int32) (s1 : Nat) (s2 : Int32) (s0 : Int32) (M : XM) : Option (Int32 × XM) :=
  if x_at M s1 1 s0 = true then (f_X3_most_89 κ11 κ34 v0 v1 v3 v4 v5 v6 (if s2 < (x_i M s1 s0.toNatClampNeg) then (x_i M s1 s0.toNatClampNeg) else s2) M) else none
set_option maxRecDepth 20000 in
set_option maxHeartbeats 4000000 in
theorem t_X3_most_c80 (l : Launch) {κ11 : Nat → Nat → Int32 → Nat → Int32 → XM → Option (Int32 × XM)} {κ34 : Nat → Nat → Int32 → Nat → Int32 → Int32 → XM → Option (Int32 × XM)} {v0 : Nat} {v1 : Nat} {v3 : Int32} {v4 : Nat} {v5 : Int32} {v6 : Int32} {s1 : Nat} {s2 : Int32} {s0 : Int32} {M : XM} {q : Int32 × XM} (hκ11 : ∀ (v0 : Nat) (v1 : Nat) (v3 : Int32) (v4 : Nat) (v5 : Int32) (M : XM), κ11 v0 v1 v3 v4 v5 M = some q → AW l m_X3_most 2 0 0 (x_Ri q) 0 0 11 [some (.ref v0), some (.ref v1), none, some (.int v3), some (.ref v4), some (.int v5), none, none] [] M) (hκ34 : ∀ (v0 : Nat) (v1 : Nat) (v3 : Int32) (v4 : Nat) (v5 : Int32) (v6 : Int32) (M : XM), κ34 v0 v1 v3 v4 v5 v6 M = some q → AW l m_X3_most 2 0 0 (x_Ri q) 0 0 34 [some (.ref v0), some (.ref v1), none, some (.int v3), some (.ref v4), some (.int v5), some (.int v6), none] [] M) (H : f_X3_most_c80 κ11 κ34 v0 v1 v3 v4 v5 v6 s1 s2 s0 M = some q) : AW l m_X3_most 2 0 0 (x_Ri q) 0 0 83 [some (.ref v0), some (.ref v1), none, some (.int v3), some (.ref v4), some (.int v5), some (.int v6), none] [(.int s0), (.ref s1), (.int s2)] M := by
  unfold f_X3_most_c80 at H
  obtain ⟨h36, H⟩ := x_ckp H
  refine x_iald 83 dX3_most_83 h36 ?_
  refine x_max 84 40 dX3_most_84 lk_845 lk_660 lk_97 lk_661 rfl (Nat.le_of_ble_eq_true rfl) (by decide) (Nat.le_of_ble_eq_true rfl) (Nat.le_of_ble_eq_true rfl) ?_
  refine x_istore 87 7 [some (.ref v0), some (.ref v1), none, some (.int v3), some (.ref v4), some (.int v5), some (.int v6), some (.int (if s2 < (x_i M s1 s0.toNatClampNeg) then (x_i M s1 s0.toNatClampNeg) else s2))] dX3_most_87 rfl (Nat.le_of_ble_eq_true rfl) rfl ?_
  exact t_X3_most_89 l hκ11 hκ34 H

def bd_X3_most_34 (κ11 : Nat → Nat → Int32 → Nat → Int32 → XM → Option (Int32 × XM)) (κ34 : Nat → Nat → Int32 → Nat → Int32 → Int32 → XM → Option (Int32 × XM)) (v0 : Nat) (v1 : Nat) (v3 : Int32) (v4 : Nat) (v5 : Int32) (v6 : Int32) (M : XM) : Option (Int32 × XM) :=
  if v6 < 0 then (if x_tag M v0 = 3 + 10 then (x_bv (f_X3_swap v0 M) (f_X3_most_c107 κ11 v0 v1 v3 v4 v5)) else none) else (if x_tag M v0 = 3 + 10 then (if x_at M (x_r M v0 1) 1 (v6 + (1 : Int32)) = true then (if v3 ≤ v5 then (f_X3_most_89 κ11 κ34 v0 v1 v3 v4 v5 v6 (x_i M (x_r M v0 1) (v6 + (1 : Int32)).toNatClampNeg) M) else (if x_tag M v4 = 2 + 10 then (if x_tag M v1 = 4 + 10 then (x_bd (f_X2_leftAt v4 v6 (((x_i M v4 4) + v5) + (1 : Int32)) (x_i M v1 3) M) (f_X3_most_c80 κ11 κ34 v0 v1 v3 v4 v5 v6 (x_r M v0 0) (x_i M (x_r M v0 1) (v6 + (1 : Int32)).toNatClampNeg))) else none) else none)) else none) else none)
set_option maxRecDepth 20000 in
set_option maxHeartbeats 4000000 in
theorem tb_X3_most_34 (l : Launch) {κ11 : Nat → Nat → Int32 → Nat → Int32 → XM → Option (Int32 × XM)} {κ34 : Nat → Nat → Int32 → Nat → Int32 → Int32 → XM → Option (Int32 × XM)} {v0 : Nat} {v1 : Nat} {v3 : Int32} {v4 : Nat} {v5 : Int32} {v6 : Int32} {M : XM} {q : Int32 × XM} (hκ11 : ∀ (v0 : Nat) (v1 : Nat) (v3 : Int32) (v4 : Nat) (v5 : Int32) (M : XM), κ11 v0 v1 v3 v4 v5 M = some q → AW l m_X3_most 2 0 0 (x_Ri q) 0 0 11 [some (.ref v0), some (.ref v1), none, some (.int v3), some (.ref v4), some (.int v5), none, none] [] M) (hκ34 : ∀ (v0 : Nat) (v1 : Nat) (v3 : Int32) (v4 : Nat) (v5 : Int32) (v6 : Int32) (M : XM), κ34 v0 v1 v3 v4 v5 v6 M = some q → AW l m_X3_most 2 0 0 (x_Ri q) 0 0 34 [some (.ref v0), some (.ref v1), none, some (.int v3), some (.ref v4), some (.int v5), some (.int v6), none] [] M) (H : bd_X3_most_34 κ11 κ34 v0 v1 v3 v4 v5 v6 M = some q) : AW l m_X3_most 2 0 0 (x_Ri q) 0 0 34 [some (.ref v0), some (.ref v1), none, some (.int v3), some (.ref v4), some (.int v5), some (.int v6), none] [] M := by
  unfold bd_X3_most_34 at H
  refine x_iload 34 6 dX3_most_34 rfl ?_
  refine x_if_lt 36 106 dX3_most_36 (by decide) (fun c16 => ?_) (fun c16 => ?_)
  · replace H := x_ifp c16 H
    refine x_aload_n 106 0 dX3_most_106 rfl rfl ?_
    obtain ⟨h17, H⟩ := x_ckp H
    obtain ⟨M18, e20, H⟩ := x_bv_of H
    refine x_callV 107 46 3 [] [] dX3_most_107 (ct_X3_swap l e20) lk_846 lk_848 lk_24 (by decide) h17 lk_91 lk_849 ⟨cn_X3_swap, (by decide), by decide⟩ rfl (Nat.le_of_ble_eq_true rfl) (Nat.le_of_ble_eq_true rfl) (Nat.le_of_ble_eq_true rfl) (x_rv ?_)
    exact x_wk (le_s (le_s (le_s (le_s (le_s (le_s (le_n (le_s le_0)))))))) (t_X3_most_c107 l hκ11 H)
  · replace H := x_ifn c16 H
    refine x_aload_n 39 0 dX3_most_39 rfl rfl ?_
    obtain ⟨h21, H⟩ := x_ckp H
    refine x_getf 40 15 3 1 (.ref (x_r M v0 1)) dX3_most_40 lk_306 (by decide) (by decide) rfl (fun _ => rfl) h21 ?_
    refine x_iload 43 6 dX3_most_43 rfl ?_
    refine x_iconst 45 (1 : Int32) dX3_most_45 (by decide) ?_
    refine x_iadd 46 dX3_most_46 ?_
    obtain ⟨h22, H⟩ := x_ckp H
    refine x_iald 47 dX3_most_47 h22 ?_
    refine x_istore 48 7 [some (.ref v0), some (.ref v1), none, some (.int v3), some (.ref v4), some (.int v5), some (.int v6), some (.int (x_i M (x_r M v0 1) (v6 + (1 : Int32)).toNatClampNeg))] dX3_most_48 rfl (Nat.le_of_ble_eq_true rfl) rfl ?_
    refine x_iload 50 5 dX3_most_50 rfl ?_
    refine x_iload_n 52 3 dX3_most_52 rfl rfl ?_
    refine x_icmp_ge 53 89 dX3_most_53 (by decide) (fun c23 => ?_) (fun c23 => ?_)
    · replace H := x_ifp c23 H
      exact t_X3_most_89 l hκ11 hκ34 H
    · replace H := x_ifn c23 H
      refine x_iload 56 7 dX3_most_56 rfl ?_
      refine x_aload_n 58 0 dX3_most_58 rfl rfl ?_
      refine x_getf 59 9 3 0 (.ref (x_r M v0 0)) dX3_most_59 lk_305 (by decide) (by decide) rfl (fun _ => rfl) h21 ?_
      refine x_aload 62 4 dX3_most_62 rfl ?_
      refine x_iload 64 6 dX3_most_64 rfl ?_
      refine x_aload 66 4 dX3_most_66 rfl ?_
      obtain ⟨h31, H⟩ := x_ckp H
      refine x_getf 68 28 2 4 (.int (x_i M v4 4)) dX3_most_68 lk_138 (by decide) (by decide) rfl (fun _ => rfl) h31 ?_
      refine x_iload 71 5 dX3_most_71 rfl ?_
      refine x_iadd 73 dX3_most_73 ?_
      refine x_iconst 74 (1 : Int32) dX3_most_74 (by decide) ?_
      refine x_iadd 75 dX3_most_75 ?_
      refine x_aload_n 76 1 dX3_most_76 rfl rfl ?_
      obtain ⟨h32, H⟩ := x_ckp H
      refine x_getf 77 33 4 3 (.int (x_i M v1 3)) dX3_most_77 lk_170 (by decide) (by decide) rfl (fun _ => rfl) h32 ?_
      obtain ⟨r34, M33, e35, H⟩ := x_bd_of H
      refine x_callV 80 36 2 [(.int v6), (.int (((x_i M v4 4) + v5) + (1 : Int32))), (.int (x_i M v1 3))] [(.ref (x_r M v0 0)), (.int (x_i M (x_r M v0 1) (v6 + (1 : Int32)).toNatClampNeg))] dX3_most_80 (ct_X2_leftAt l e35) lk_844 lk_711 lk_712 (by decide) h31 lk_87 lk_713 ⟨cn_X2_leftAt, (by decide), by decide⟩ rfl (Nat.le_of_ble_eq_true rfl) (Nat.le_of_ble_eq_true rfl) (Nat.le_of_ble_eq_true rfl) (x_ri ?_)
      exact x_wk (le_s (le_s (le_s (le_s (le_s (le_s (le_s (le_n le_0)))))))) (t_X3_most_c80 l hκ11 hκ34 H)

def lp_X3_most_34 (κ11 : Nat → Nat → Int32 → Nat → Int32 → XM → Option (Int32 × XM)) (n : Nat) : Nat → Nat → Int32 → Nat → Int32 → Int32 → XM → Option (Int32 × XM) := x_rec (fun _ _ _ _ _ _ _ => none) (bd_X3_most_34 κ11) n
theorem t_X3_most_34 (l : Launch) {κ11 : Nat → Nat → Int32 → Nat → Int32 → XM → Option (Int32 × XM)} {q : Int32 × XM} (hκ11 : ∀ (v0 : Nat) (v1 : Nat) (v3 : Int32) (v4 : Nat) (v5 : Int32) (M : XM), κ11 v0 v1 v3 v4 v5 M = some q → AW l m_X3_most 2 0 0 (x_Ri q) 0 0 11 [some (.ref v0), some (.ref v1), none, some (.int v3), some (.ref v4), some (.int v5), none, none] [] M) : ∀ (n : Nat) (v0 : Nat) (v1 : Nat) (v3 : Int32) (v4 : Nat) (v5 : Int32) (v6 : Int32) (M : XM), lp_X3_most_34 κ11 n v0 v1 v3 v4 v5 v6 M = some q → AW l m_X3_most 2 0 0 (x_Ri q) 0 0 34 [some (.ref v0), some (.ref v1), none, some (.int v3), some (.ref v4), some (.int v5), some (.int v6), none] [] M := by
  intro n
  induction n with
  | zero => intro v0 v1 v3 v4 v5 v6 M H; cases H
  | succ n ih => intro v0 v1 v3 v4 v5 v6 M H; exact tb_X3_most_34 l hκ11 ih H
def bd_X3_most_11 (κ11 : Nat → Nat → Int32 → Nat → Int32 → XM → Option (Int32 × XM)) (v0 : Nat) (v1 : Nat) (v3 : Int32) (v4 : Nat) (v5 : Int32) (M : XM) : Option (Int32 × XM) :=
  if v5 < 0 then (if x_tag M v0 = 3 + 10 then (if x_tag M v4 = 2 + 10 then (if x_at M (x_r M v0 0) 1 (x_i M v4 2) = true then (some ((x_i M (x_r M v0 0) (x_i M v4 2).toNatClampNeg), M)) else none) else none) else none) else (if x_tag M v0 = 3 + 10 then (if x_tag M v1 = 4 + 10 then (if x_at M (x_r M v0 1) 1 (x_i M v1 2) = true then (x_lt (x_wi M (x_r M v0 1) (x_i M v1 2).toNatClampNeg (0 : Int32)) (fun M10 => lp_X3_most_34 κ11 x_fuel v0 v1 v3 v4 v5 ((x_i M10 v1 2) - (1 : Int32)) M10)) else none) else none) else none)
set_option maxRecDepth 20000 in
set_option maxHeartbeats 4000000 in
theorem tb_X3_most_11 (l : Launch) {κ11 : Nat → Nat → Int32 → Nat → Int32 → XM → Option (Int32 × XM)} {v0 : Nat} {v1 : Nat} {v3 : Int32} {v4 : Nat} {v5 : Int32} {M : XM} {q : Int32 × XM} (hκ11 : ∀ (v0 : Nat) (v1 : Nat) (v3 : Int32) (v4 : Nat) (v5 : Int32) (M : XM), κ11 v0 v1 v3 v4 v5 M = some q → AW l m_X3_most 2 0 0 (x_Ri q) 0 0 11 [some (.ref v0), some (.ref v1), none, some (.int v3), some (.ref v4), some (.int v5), none, none] [] M) (H : bd_X3_most_11 κ11 v0 v1 v3 v4 v5 M = some q) : AW l m_X3_most 2 0 0 (x_Ri q) 0 0 11 [some (.ref v0), some (.ref v1), none, some (.int v3), some (.ref v4), some (.int v5), none, none] [] M := by
  unfold bd_X3_most_11 at H
  refine x_iload 11 5 dX3_most_11 rfl ?_
  refine x_if_lt 13 116 dX3_most_13 (by decide) (fun c3 => ?_) (fun c3 => ?_)
  · replace H := x_ifp c3 H
    refine x_aload_n 116 0 dX3_most_116 rfl rfl ?_
    obtain ⟨h4, H⟩ := x_ckp H
    refine x_getf 117 9 3 0 (.ref (x_r M v0 0)) dX3_most_117 lk_305 (by decide) (by decide) rfl (fun _ => rfl) h4 ?_
    refine x_aload 120 4 dX3_most_120 rfl ?_
    obtain ⟨h5, H⟩ := x_ckp H
    refine x_getf 122 49 2 2 (.int (x_i M v4 2)) dX3_most_122 lk_130 (by decide) (by decide) rfl (fun _ => rfl) h5 ?_
    obtain ⟨h6, H⟩ := x_ckp H
    refine x_iald 125 dX3_most_125 h6 ?_
    cases H
    exact x_iret 126 dX3_most_126 .int rfl rfl (Nat.le_of_ble_eq_true rfl) (Nat.le_of_ble_eq_true rfl) ⟨rfl, rfl⟩
  · replace H := x_ifn c3 H
    refine x_aload_n 16 0 dX3_most_16 rfl rfl ?_
    obtain ⟨h7, H⟩ := x_ckp H
    refine x_getf 17 15 3 1 (.ref (x_r M v0 1)) dX3_most_17 lk_306 (by decide) (by decide) rfl (fun _ => rfl) h7 ?_
    refine x_aload_n 20 1 dX3_most_20 rfl rfl ?_
    obtain ⟨h8, H⟩ := x_ckp H
    refine x_getf 21 24 4 2 (.int (x_i M v1 2)) dX3_most_21 lk_164 (by decide) (by decide) rfl (fun _ => rfl) h8 ?_
    refine x_iconst 24 (0 : Int32) dX3_most_24 (by decide) ?_
    obtain ⟨h9, H⟩ := x_ckp H
    obtain ⟨M10, w11, H⟩ := x_lt_of H
    have h12 : x_tag M10 v0 = 3 + 10 := by rw [w11]; exact h7
    have h13 : x_tag M10 v1 = 4 + 10 := by rw [w11]; exact h8
    have h14 : x_at M10 (x_r M v0 1) 1 (x_i M v1 2) = true := by rw [w11]; exact h9
    have h15 : x_tag M10 (x_r M v0 1) = 1 := by rw [w11]; exact (x_at_1 h9)
    refine x_iast' 25 dX3_most_25 h9 w11 ?_
    refine x_aload_n 26 1 dX3_most_26 rfl rfl ?_
    refine x_getf 27 24 4 2 (.int (x_i M10 v1 2)) dX3_most_27 lk_164 (by decide) (by decide) rfl (fun _ => rfl) h13 ?_
    refine x_iconst 30 (1 : Int32) dX3_most_30 (by decide) ?_
    refine x_isub 31 dX3_most_31 ?_
    refine x_istore 32 6 [some (.ref v0), some (.ref v1), none, some (.int v3), some (.ref v4), some (.int v5), some (.int ((x_i M10 v1 2) - (1 : Int32))), none] dX3_most_32 rfl (Nat.le_of_ble_eq_true rfl) rfl ?_
    exact t_X3_most_34 l hκ11 _ _ _ _ _ _ _ _ H

def lp_X3_most_11 (n : Nat) : Nat → Nat → Int32 → Nat → Int32 → XM → Option (Int32 × XM) := x_rec (fun _ _ _ _ _ _ => none) (bd_X3_most_11) n
theorem t_X3_most_11 (l : Launch) {q : Int32 × XM} : ∀ (n : Nat) (v0 : Nat) (v1 : Nat) (v3 : Int32) (v4 : Nat) (v5 : Int32) (M : XM), lp_X3_most_11 n v0 v1 v3 v4 v5 M = some q → AW l m_X3_most 2 0 0 (x_Ri q) 0 0 11 [some (.ref v0), some (.ref v1), none, some (.int v3), some (.ref v4), some (.int v5), none, none] [] M := by
  intro n
  induction n with
  | zero => intro v0 v1 v3 v4 v5 M H; cases H
  | succ n ih => intro v0 v1 v3 v4 v5 M H; exact tb_X3_most_11 l ih H
def f_X3_most (v0 : Nat) (v1 : Nat) (v2 : Int32) (v3 : Int32) (M : XM) : Option (Int32 × XM) :=
  if x_tag M v1 = 4 + 10 then (if x_at M (x_r M v1 0) 3 v2 = true then (lp_X3_most_11 x_fuel v0 v1 v3 (x_r M (x_r M v1 0) v2.toNatClampNeg) v3 M) else none) else none
set_option maxRecDepth 20000 in
set_option maxHeartbeats 4000000 in
theorem t_X3_most (l : Launch) {v0 : Nat} {v1 : Nat} {v2 : Int32} {v3 : Int32} {M : XM} {q : Int32 × XM} (H : f_X3_most v0 v1 v2 v3 M = some q) : AW l m_X3_most 2 0 0 (x_Ri q) 0 0 0 [some (.ref v0), some (.ref v1), some (.int v2), some (.int v3), none, none, none, none] [] M := by
  unfold f_X3_most at H
  refine x_aload_n 0 1 dX3_most_0 rfl rfl ?_
  obtain ⟨h1, H⟩ := x_ckp H
  refine x_getf 1 18 4 0 (.ref (x_r M v1 0)) dX3_most_1 lk_155 (by decide) (by decide) rfl (fun _ => rfl) h1 ?_
  refine x_iload_n 4 2 dX3_most_4 rfl rfl ?_
  obtain ⟨h2, H⟩ := x_ckp H
  refine x_aald3 5 dX3_most_5 h2 ?_
  refine x_astore 6 4 [some (.ref v0), some (.ref v1), some (.int v2), some (.int v3), some (.ref (x_r M (x_r M v1 0) v2.toNatClampNeg)), none, none, none] dX3_most_6 rfl (Nat.le_of_ble_eq_true rfl) rfl ?_
  refine x_iload_n 8 3 dX3_most_8 rfl rfl ?_
  refine x_istore 9 5 [some (.ref v0), some (.ref v1), some (.int v2), some (.int v3), some (.ref (x_r M (x_r M v1 0) v2.toNatClampNeg)), some (.int v3), none, none] dX3_most_9 rfl (Nat.le_of_ble_eq_true rfl) rfl ?_
  exact x_wk (le_s (le_s (le_n (le_s (le_s (le_s (le_s (le_s le_0)))))))) (t_X3_most_11 l _ _ _ _ _ _ _ H)

theorem ct_X3_most (l : Launch) {v0 : Nat} {v1 : Nat} {v2 : Int32} {v3 : Int32} {M : XM} {q : Int32 × XM} (H : f_X3_most v0 v1 v2 v3 M = some q) : Ct l m_X3_most 2 0 0 [(.ref v0), (.ref v1), (.int v2), (.int v3)] M (x_Ri q) := x_met l m_X3_most 2 0 0 [(.ref v0), (.ref v1), (.int v2), (.int v3)] M (x_Ri q) _ rfl rfl (Nat.le_of_ble_eq_true rfl) (t_X3_most l H)
theorem lk_858 : Cond.methodLink RX3 52 yJ7_fill_53178 ∈ x_TB := x_tb (k := 858) (by decide +kernel) rfl
abbrev m_X3_hasBit : XU := (yX3_hasBit, cX3_hasBit, 2, (some .boolean))
theorem cn_X3_hasBit : m_X3_hasBit.1.cls ≠ "java/lang/invoke/MethodHandle" ∧ m_X3_hasBit.1.cls ≠ "java/lang/invoke/VarHandle" ∧ (parseMethodDescriptor m_X3_hasBit.1.desc).map (fun q => q.parameters.length) = some 2 := by decide +kernel
def f_X3_hasBit (v0 : Int32) (v1 : Int32) (M : XM) : Option (Int32 × XM) :=
  if ((v0 >>> (v1 &&& 31)) &&& (1 : Int32)) = 0 then (some ((0 : Int32), M)) else (some ((1 : Int32), M))
set_option maxRecDepth 20000 in
set_option maxHeartbeats 4000000 in
theorem t_X3_hasBit (l : Launch) {v0 : Int32} {v1 : Int32} {M : XM} {q : Int32 × XM} (H : f_X3_hasBit v0 v1 M = some q) : AW l m_X3_hasBit 1 0 0 (x_Ri q) 0 0 0 [some (.int v0), some (.int v1)] [] M := by
  unfold f_X3_hasBit at H
  refine x_iload_n 0 0 dX3_hasBit_0 rfl rfl ?_
  refine x_iload_n 1 1 dX3_hasBit_1 rfl rfl ?_
  refine x_ishr 2 dX3_hasBit_2 ?_
  refine x_iconst 3 (1 : Int32) dX3_hasBit_3 (by decide) ?_
  refine x_iand 4 dX3_hasBit_4 ?_
  refine x_if_eq 5 12 dX3_hasBit_5 (by decide) (fun c1 => ?_) (fun c1 => ?_)
  · replace H := x_ifp c1 H
    refine x_iconst 12 (0 : Int32) dX3_hasBit_12 (by decide) ?_
    cases H
    exact x_iret 13 dX3_hasBit_13 .boolean rfl rfl (Nat.le_of_ble_eq_true rfl) (Nat.le_of_ble_eq_true rfl) ⟨rfl, rfl⟩
  · replace H := x_ifn c1 H
    refine x_iconst 8 (1 : Int32) dX3_hasBit_8 (by decide) ?_
    refine x_goto 9 13 dX3_hasBit_9 (by decide) ?_
    cases H
    exact x_iret 13 dX3_hasBit_13 .boolean rfl rfl (Nat.le_of_ble_eq_true rfl) (Nat.le_of_ble_eq_true rfl) ⟨rfl, rfl⟩

theorem ct_X3_hasBit (l : Launch) {v0 : Int32} {v1 : Int32} {M : XM} {q : Int32 × XM} (H : f_X3_hasBit v0 v1 M = some q) : Ct l m_X3_hasBit 1 0 0 [(.int v0), (.int v1)] M (x_Ri q) := x_met l m_X3_hasBit 1 0 0 [(.int v0), (.int v1)] M (x_Ri q) _ rfl rfl (Nat.le_of_ble_eq_true rfl) (t_X3_hasBit l H)
theorem lk_865 : Cond.code yX3_hasBit cX3_hasBit 2 (some .boolean) ∈ x_TB := x_tb (k := 865) (by decide +kernel) rfl
theorem lk_863 : Cond.methodLink RX3 62 yX3_hasBit ∈ x_TB := x_tb (k := 863) (by decide +kernel) rfl
theorem lk_864 : Cond.static yX3_hasBit ∈ x_TB := x_tb (k := 864) (by decide +kernel) rfl
abbrev m_X3_spread : XU := (yX3_spread, cX3_spread, 7, none)
theorem cn_X3_spread : m_X3_spread.1.cls ≠ "java/lang/invoke/MethodHandle" ∧ m_X3_spread.1.cls ≠ "java/lang/invoke/VarHandle" ∧ (parseMethodDescriptor m_X3_spread.1.desc).map (fun q => q.parameters.length) = some 3 := by decide +kernel
def f_X3_spread_83 (κ30 : Nat → Nat → Nat → Int32 → Int32 → Int32 → XM → Option XM) (v0 : Nat) (v1 : Nat) (v2 : Nat) (v3 : Int32) (v4 : Int32) (v5 : Int32) (M : XM) : Option XM :=
  κ30 v0 v1 v2 v3 v4 (v5 + (1 : Int32)) M
set_option maxRecDepth 20000 in
set_option maxHeartbeats 4000000 in
theorem t_X3_spread_83 (l : Launch) {κ30 : Nat → Nat → Nat → Int32 → Int32 → Int32 → XM → Option XM} {v0 : Nat} {v1 : Nat} {v2 : Nat} {v3 : Int32} {v4 : Int32} {v5 : Int32} {M : XM} {q : XM} (hκ30 : ∀ (v0 : Nat) (v1 : Nat) (v2 : Nat) (v3 : Int32) (v4 : Int32) (v5 : Int32) (M : XM), κ30 v0 v1 v2 v3 v4 v5 M = some q → AW l m_X3_spread 2 0 0 (x_Rv q) 0 0 30 [some (.ref v0), some (.ref v1), some (.ref v2), some (.int v3), some (.int v4), some (.int v5), none] [] M) (H : f_X3_spread_83 κ30 v0 v1 v2 v3 v4 v5 M = some q) : AW l m_X3_spread 2 0 0 (x_Rv q) 0 0 83 [some (.ref v0), some (.ref v1), some (.ref v2), some (.int v3), some (.int v4), some (.int v5), none] [] M := by
  unfold f_X3_spread_83 at H
  refine x_iinc 83 5 (v5 + (1 : Int32)) [some (.ref v0), some (.ref v1), some (.ref v2), some (.int v3), some (.int v4), some (.int (v5 + (1 : Int32))), none] dX3_spread_83 rfl (congrArg (fun z : Int32 => v5 + z) (show Int32.ofInt (1) = (1 : Int32) by decide)) rfl (Nat.le_of_ble_eq_true rfl) rfl ?_
  refine x_goto 86 30 dX3_spread_86 (by decide) ?_
  exact hκ30 _ _ _ _ _ _ _ H

def f_X3_spread_c61 (κ30 : Nat → Nat → Nat → Int32 → Int32 → Int32 → XM → Option XM) (v0 : Nat) (v1 : Nat) (v2 : Nat) (v3 : Int32) (v4 : Int32) (v5 : Int32) (v6 : Int32) (s0 : Int32) (M : XM) : Option XM :=
  if s0 = 0 then (f_X3_spread_83 κ30 v0 v1 v2 v3 v4 v5 M) else (if x_tag M v0 = 3 + 10 then (if x_at M (x_r M v0 1) 1 v6 = true then (x_lt (x_wi M (x_r M v0 1) v6.toNatClampNeg ((x_i M (x_r M v0 1) v6.toNatClampNeg) ||| ((1 : Int32) <<< ((v5 + (1 : Int32)) &&& 31)))) (fun M24 => f_X3_spread_83 κ30 v0 v1 v2 v3 v4 v5 M24)) else none) else none)
set_option maxRecDepth 20000 in
set_option maxHeartbeats 4000000 in
theorem t_X3_spread_c61 (l : Launch) {κ30 : Nat → Nat → Nat → Int32 → Int32 → Int32 → XM → Option XM} {v0 : Nat} {v1 : Nat} {v2 : Nat} {v3 : Int32} {v4 : Int32} {v5 : Int32} {v6 : Int32} {s0 : Int32} {M : XM} {q : XM} (hκ30 : ∀ (v0 : Nat) (v1 : Nat) (v2 : Nat) (v3 : Int32) (v4 : Int32) (v5 : Int32) (M : XM), κ30 v0 v1 v2 v3 v4 v5 M = some q → AW l m_X3_spread 2 0 0 (x_Rv q) 0 0 30 [some (.ref v0), some (.ref v1), some (.ref v2), some (.int v3), some (.int v4), some (.int v5), none] [] M) (H : f_X3_spread_c61 κ30 v0 v1 v2 v3 v4 v5 v6 s0 M = some q) : AW l m_X3_spread 2 0 0 (x_Rv q) 0 0 64 [some (.ref v0), some (.ref v1), some (.ref v2), some (.int v3), some (.int v4), some (.int v5), some (.int v6)] [(.int s0)] M := by
  unfold f_X3_spread_c61 at H
  refine x_if_eq 64 83 dX3_spread_64 (by decide) (fun c21 => ?_) (fun c21 => ?_)
  · replace H := x_ifp c21 H
    exact x_wk (le_s (le_s (le_s (le_s (le_s (le_s (le_n le_0))))))) (t_X3_spread_83 l hκ30 H)
  · replace H := x_ifn c21 H
    refine x_aload_n 67 0 dX3_spread_67 rfl rfl ?_
    obtain ⟨h22, H⟩ := x_ckp H
    refine x_getf 68 15 3 1 (.ref (x_r M v0 1)) dX3_spread_68 lk_306 (by decide) (by decide) rfl (fun _ => rfl) h22 ?_
    refine x_iload 71 6 dX3_spread_71 rfl ?_
    refine x_dup2 73 dX3_spread_73 rfl rfl ?_
    obtain ⟨h23, H⟩ := x_ckp H
    refine x_iald 74 dX3_spread_74 h23 ?_
    refine x_iconst 75 (1 : Int32) dX3_spread_75 (by decide) ?_
    refine x_iload 76 5 dX3_spread_76 rfl ?_
    refine x_iconst 78 (1 : Int32) dX3_spread_78 (by decide) ?_
    refine x_iadd 79 dX3_spread_79 ?_
    refine x_ishl 80 dX3_spread_80 ?_
    refine x_ior 81 dX3_spread_81 ?_
    obtain ⟨M24, w25, H⟩ := x_lt_of H
    have h26 : x_tag M24 v0 = 3 + 10 := by rw [w25]; exact h22
    have h27 : x_at M24 (x_r M v0 1) 1 v6 = true := by rw [w25]; exact h23
    have h28 : x_tag M24 (x_r M v0 1) = 1 := by rw [w25]; exact (x_at_1 h23)
    refine x_iast' 82 dX3_spread_82 h23 w25 ?_
    exact x_wk (le_s (le_s (le_s (le_s (le_s (le_s (le_n le_0))))))) (t_X3_spread_83 l hκ30 H)

def f_X3_spread_c52 (κ30 : Nat → Nat → Nat → Int32 → Int32 → Int32 → XM → Option XM) (v0 : Nat) (v1 : Nat) (v2 : Nat) (v3 : Int32) (v4 : Int32) (v5 : Int32) (s0 : Int32) (M : XM) : Option XM :=
  x_bd (f_X3_hasBit v4 v5 M) (f_X3_spread_c61 κ30 v0 v1 v2 v3 v4 v5 s0)
set_option maxRecDepth 20000 in
set_option maxHeartbeats 4000000 in
theorem t_X3_spread_c52 (l : Launch) {κ30 : Nat → Nat → Nat → Int32 → Int32 → Int32 → XM → Option XM} {v0 : Nat} {v1 : Nat} {v2 : Nat} {v3 : Int32} {v4 : Int32} {v5 : Int32} {s0 : Int32} {M : XM} {q : XM} (hκ30 : ∀ (v0 : Nat) (v1 : Nat) (v2 : Nat) (v3 : Int32) (v4 : Int32) (v5 : Int32) (M : XM), κ30 v0 v1 v2 v3 v4 v5 M = some q → AW l m_X3_spread 2 0 0 (x_Rv q) 0 0 30 [some (.ref v0), some (.ref v1), some (.ref v2), some (.int v3), some (.int v4), some (.int v5), none] [] M) (H : f_X3_spread_c52 κ30 v0 v1 v2 v3 v4 v5 s0 M = some q) : AW l m_X3_spread 2 0 0 (x_Rv q) 0 0 55 [some (.ref v0), some (.ref v1), some (.ref v2), some (.int v3), some (.int v4), some (.int v5), none] [(.int s0)] M := by
  unfold f_X3_spread_c52 at H
  refine x_istore 55 6 [some (.ref v0), some (.ref v1), some (.ref v2), some (.int v3), some (.int v4), some (.int v5), some (.int s0)] dX3_spread_55 rfl (Nat.le_of_ble_eq_true rfl) rfl ?_
  refine x_iload 57 4 dX3_spread_57 rfl ?_
  refine x_iload 59 5 dX3_spread_59 rfl ?_
  obtain ⟨r19, M18, e20, H⟩ := x_bd_of H
  refine x_callS 61 62 [(.int v4), (.int v5)] [] dX3_spread_61 (ct_X3_hasBit l e20) lk_863 lk_864 lk_91 lk_865 ⟨cn_X3_hasBit, (by decide), by decide⟩ rfl (Nat.le_of_ble_eq_true rfl) (Nat.le_of_ble_eq_true rfl) (Nat.le_of_ble_eq_true rfl) (x_ri ?_)
  exact t_X3_spread_c61 l hκ30 H

def bd_X3_spread_30 (κ30 : Nat → Nat → Nat → Int32 → Int32 → Int32 → XM → Option XM) (v0 : Nat) (v1 : Nat) (v2 : Nat) (v3 : Int32) (v4 : Int32) (v5 : Int32) (M : XM) : Option XM :=
  if (8 : Int32) ≤ v5 then (some M) else (if x_tag M v2 = 2 + 10 then (if x_tag M v1 = 4 + 10 then (x_bd (f_X2_leftAt v2 v3 (((x_i M v2 4) + v5) + (1 : Int32)) (x_i M v1 3) M) (f_X3_spread_c52 κ30 v0 v1 v2 v3 v4 v5)) else none) else none)
set_option maxRecDepth 20000 in
set_option maxHeartbeats 4000000 in
theorem tb_X3_spread_30 (l : Launch) {κ30 : Nat → Nat → Nat → Int32 → Int32 → Int32 → XM → Option XM} {v0 : Nat} {v1 : Nat} {v2 : Nat} {v3 : Int32} {v4 : Int32} {v5 : Int32} {M : XM} {q : XM} (hκ30 : ∀ (v0 : Nat) (v1 : Nat) (v2 : Nat) (v3 : Int32) (v4 : Int32) (v5 : Int32) (M : XM), κ30 v0 v1 v2 v3 v4 v5 M = some q → AW l m_X3_spread 2 0 0 (x_Rv q) 0 0 30 [some (.ref v0), some (.ref v1), some (.ref v2), some (.int v3), some (.int v4), some (.int v5), none] [] M) (H : bd_X3_spread_30 κ30 v0 v1 v2 v3 v4 v5 M = some q) : AW l m_X3_spread 2 0 0 (x_Rv q) 0 0 30 [some (.ref v0), some (.ref v1), some (.ref v2), some (.int v3), some (.int v4), some (.int v5), none] [] M := by
  unfold bd_X3_spread_30 at H
  refine x_iload 30 5 dX3_spread_30 rfl ?_
  refine x_bipush 32 (8 : Int32) dX3_spread_32 (by decide) ?_
  refine x_icmp_ge 34 89 dX3_spread_34 (by decide) (fun c12 => ?_) (fun c12 => ?_)
  · replace H := x_ifp c12 H
    cases H
    exact x_vret 89 dX3_spread_89 rfl (Nat.le_of_ble_eq_true rfl) (Nat.le_of_ble_eq_true rfl) ⟨rfl, rfl⟩
  · replace H := x_ifn c12 H
    refine x_aload_n 37 2 dX3_spread_37 rfl rfl ?_
    refine x_iload_n 38 3 dX3_spread_38 rfl rfl ?_
    refine x_aload_n 39 2 dX3_spread_39 rfl rfl ?_
    obtain ⟨h13, H⟩ := x_ckp H
    refine x_getf 40 28 2 4 (.int (x_i M v2 4)) dX3_spread_40 lk_138 (by decide) (by decide) rfl (fun _ => rfl) h13 ?_
    refine x_iload 43 5 dX3_spread_43 rfl ?_
    refine x_iadd 45 dX3_spread_45 ?_
    refine x_iconst 46 (1 : Int32) dX3_spread_46 (by decide) ?_
    refine x_iadd 47 dX3_spread_47 ?_
    refine x_aload_n 48 1 dX3_spread_48 rfl rfl ?_
    obtain ⟨h14, H⟩ := x_ckp H
    refine x_getf 49 33 4 3 (.int (x_i M v1 3)) dX3_spread_49 lk_170 (by decide) (by decide) rfl (fun _ => rfl) h14 ?_
    obtain ⟨r16, M15, e17, H⟩ := x_bd_of H
    refine x_callV 52 36 2 [(.int v3), (.int (((x_i M v2 4) + v5) + (1 : Int32))), (.int (x_i M v1 3))] [] dX3_spread_52 (ct_X2_leftAt l e17) lk_844 lk_711 lk_712 (by decide) h13 lk_87 lk_713 ⟨cn_X2_leftAt, (by decide), by decide⟩ rfl (Nat.le_of_ble_eq_true rfl) (Nat.le_of_ble_eq_true rfl) (Nat.le_of_ble_eq_true rfl) (x_ri ?_)
    exact t_X3_spread_c52 l hκ30 H

def lp_X3_spread_30 (n : Nat) : Nat → Nat → Nat → Int32 → Int32 → Int32 → XM → Option XM := x_rec (fun _ _ _ _ _ _ _ => none) (bd_X3_spread_30) n
theorem t_X3_spread_30 (l : Launch) {q : XM} : ∀ (n : Nat) (v0 : Nat) (v1 : Nat) (v2 : Nat) (v3 : Int32) (v4 : Int32) (v5 : Int32) (M : XM), lp_X3_spread_30 n v0 v1 v2 v3 v4 v5 M = some q → AW l m_X3_spread 2 0 0 (x_Rv q) 0 0 30 [some (.ref v0), some (.ref v1), some (.ref v2), some (.int v3), some (.int v4), some (.int v5), none] [] M := by
  intro n
  induction n with
  | zero => intro v0 v1 v2 v3 v4 v5 M H; cases H
  | succ n ih => intro v0 v1 v2 v3 v4 v5 M H; exact tb_X3_spread_30 l ih H
def f_X3_spread (v0 : Nat) (v1 : Nat) (v2 : Nat) (v3 : Int32) (M : XM) : Option XM :=
  if x_tag M v0 = 3 + 10 then (if x_at M (x_r M v0 0) 1 v3 = true then (if (x_i M (x_r M v0 0) v3.toNatClampNeg) = 0 then (some M) else (if x_at M (x_r M v0 1) 1 (v3 + (1 : Int32)) = true then (x_lt (x_wi M (x_r M v0 1) (v3 + (1 : Int32)).toNatClampNeg ((x_i M (x_r M v0 1) (v3 + (1 : Int32)).toNatClampNeg) ||| (x_i M (x_r M v0 0) v3.toNatClampNeg))) (fun M5 => lp_X3_spread_30 x_fuel v0 v1 v2 v3 (x_i M (x_r M v0 0) v3.toNatClampNeg) (0 : Int32) M5)) else none)) else none) else none
set_option maxRecDepth 20000 in
set_option maxHeartbeats 4000000 in
theorem t_X3_spread (l : Launch) {v0 : Nat} {v1 : Nat} {v2 : Nat} {v3 : Int32} {M : XM} {q : XM} (H : f_X3_spread v0 v1 v2 v3 M = some q) : AW l m_X3_spread 2 0 0 (x_Rv q) 0 0 0 [some (.ref v0), some (.ref v1), some (.ref v2), some (.int v3), none, none, none] [] M := by
  unfold f_X3_spread at H
  refine x_aload_n 0 0 dX3_spread_0 rfl rfl ?_
  obtain ⟨h1, H⟩ := x_ckp H
  refine x_getf 1 9 3 0 (.ref (x_r M v0 0)) dX3_spread_1 lk_305 (by decide) (by decide) rfl (fun _ => rfl) h1 ?_
  refine x_iload_n 4 3 dX3_spread_4 rfl rfl ?_
  obtain ⟨h2, H⟩ := x_ckp H
  refine x_iald 5 dX3_spread_5 h2 ?_
  refine x_istore 6 4 [some (.ref v0), some (.ref v1), some (.ref v2), some (.int v3), some (.int (x_i M (x_r M v0 0) v3.toNatClampNeg)), none, none] dX3_spread_6 rfl (Nat.le_of_ble_eq_true rfl) rfl ?_
  refine x_iload 8 4 dX3_spread_8 rfl ?_
  refine x_if_ne 10 14 dX3_spread_10 (by decide) (fun c3 => ?_) (fun c3 => ?_)
  · replace H := x_ifn c3 H
    refine x_aload_n 14 0 dX3_spread_14 rfl rfl ?_
    refine x_getf 15 15 3 1 (.ref (x_r M v0 1)) dX3_spread_15 lk_306 (by decide) (by decide) rfl (fun _ => rfl) h1 ?_
    refine x_iload_n 18 3 dX3_spread_18 rfl rfl ?_
    refine x_iconst 19 (1 : Int32) dX3_spread_19 (by decide) ?_
    refine x_iadd 20 dX3_spread_20 ?_
    refine x_dup2 21 dX3_spread_21 rfl rfl ?_
    obtain ⟨h4, H⟩ := x_ckp H
    refine x_iald 22 dX3_spread_22 h4 ?_
    refine x_iload 23 4 dX3_spread_23 rfl ?_
    refine x_ior 25 dX3_spread_25 ?_
    obtain ⟨M5, w6, H⟩ := x_lt_of H
    have h7 : x_tag M5 v0 = 3 + 10 := by rw [w6]; exact h1
    have h8 : x_at M5 (x_r M v0 0) 1 v3 = true := by rw [w6]; exact h2
    have h9 : x_tag M5 (x_r M v0 0) = 1 := by rw [w6]; exact (x_at_1 h2)
    have h10 : x_at M5 (x_r M v0 1) 1 (v3 + (1 : Int32)) = true := by rw [w6]; exact h4
    have h11 : x_tag M5 (x_r M v0 1) = 1 := by rw [w6]; exact (x_at_1 h4)
    refine x_iast' 26 dX3_spread_26 h4 w6 ?_
    refine x_iconst 27 (0 : Int32) dX3_spread_27 (by decide) ?_
    refine x_istore 28 5 [some (.ref v0), some (.ref v1), some (.ref v2), some (.int v3), some (.int (x_i M (x_r M v0 0) v3.toNatClampNeg)), some (.int (0 : Int32)), none] dX3_spread_28 rfl (Nat.le_of_ble_eq_true rfl) rfl ?_
    exact t_X3_spread_30 l _ _ _ _ _ _ _ _ H
  · replace H := x_ifp c3 H
    cases H
    exact x_vret 13 dX3_spread_13 rfl (Nat.le_of_ble_eq_true rfl) (Nat.le_of_ble_eq_true rfl) ⟨rfl, rfl⟩

theorem ct_X3_spread (l : Launch) {v0 : Nat} {v1 : Nat} {v2 : Nat} {v3 : Int32} {M : XM} {q : XM} (H : f_X3_spread v0 v1 v2 v3 M = some q) : Ct l m_X3_spread 2 0 0 [(.ref v0), (.ref v1), (.ref v2), (.int v3)] M (x_Rv q) := x_met l m_X3_spread 2 0 0 [(.ref v0), (.ref v1), (.ref v2), (.int v3)] M (x_Rv q) _ rfl rfl (Nat.le_of_ble_eq_true rfl) (t_X3_spread l H)
