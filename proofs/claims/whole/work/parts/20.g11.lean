theorem lk_1240 : Cond.code yX9_carries cX9_carries 7 (some .int) ∈ x_TB := x_tb (k := 1240) (by decide +kernel) rfl
theorem lk_1237 : Cond.methodLink RX9 169 yX9_carries ∈ x_TB := x_tb (k := 1237) (by decide +kernel) rfl
theorem lk_44 : Cond.selects RX9 yX9_carries yX9_carries ∈ x_TB := x_tb (k := 44) (by decide +kernel) rfl
theorem lk_1239 : Cond.instanceMethod yX9_carries ∈ x_TB := x_tb (k := 1239) (by decide +kernel) rfl
theorem lk_1035 : Cond.fieldLink RX9 173 RX9 "done" "I" ∈ x_TB := x_tb (k := 1035) (by decide +kernel) rfl
abbrev m_X9_all : XU := (yX9_all, cX9_all, 4, none)
theorem cn_X9_all : m_X9_all.1.cls ≠ "java/lang/invoke/MethodHandle" ∧ m_X9_all.1.cls ≠ "java/lang/invoke/VarHandle" ∧ (parseMethodDescriptor m_X9_all.1.desc).map (fun q => q.parameters.length) = some 2 := by decide +kernel
def f_X9_all_c80 (v0 : Nat) (v1 : Nat) (v2 : Int32) (s0 : Int32) (M : XM) : Option XM :=
  if v2 = 0 then (if x_tag M v0 = 9 + 10 then (if x_at M v1 1 s0 = true then (x_lt (x_wi M v1 s0.toNatClampNeg (x_i M v0 0)) (fun M28 => if x_at M28 v1 1 (s0 + (1 : Int32)) = true then (x_lt (x_wi M28 v1 (s0 + (1 : Int32)).toNatClampNeg (x_i M28 v0 1)) (fun M34 => if x_at M34 v1 1 (s0 + (2 : Int32)) = true then (x_lt (x_wi M34 v1 (s0 + (2 : Int32)).toNatClampNeg (x_i M34 v0 2)) (fun M41 => if x_at M41 v1 1 (s0 + (3 : Int32)) = true then (x_lt (x_wi M41 v1 (s0 + (3 : Int32)).toNatClampNeg (x_i M41 v0 3)) (fun M49 => if x_at M49 v1 1 (s0 + (4 : Int32)) = true then (x_lt (x_wi M49 v1 (s0 + (4 : Int32)).toNatClampNeg (x_i M49 v0 4)) (fun M58 => if x_at M58 v1 1 (s0 + (5 : Int32)) = true then (x_lt (x_wi M58 v1 (s0 + (5 : Int32)).toNatClampNeg (x_i M58 v0 5)) (fun M68 => if x_at M68 v1 1 (s0 + (6 : Int32)) = true then (x_lt (x_wi M68 v1 (s0 + (6 : Int32)).toNatClampNeg (x_i M68 v0 6)) (fun M79 => if x_at M79 v1 1 (s0 + (7 : Int32)) = true then (x_lt (x_wi M79 v1 (s0 + (7 : Int32)).toNatClampNeg (x_i M79 v0 7)) (fun M91 => some M91)) else none)) else none)) else none)) else none)) else none)) else none)) else none)) else none) else none) else (if x_at M v1 1 s0 = true then (if x_tag M v0 = 9 + 10 then (x_lt (x_wi M v0 0 (x_i M v1 s0.toNatClampNeg)) (fun M105 => if x_at M105 v1 1 (s0 + (1 : Int32)) = true then (x_lt (x_wi M105 v0 1 (x_i M105 v1 (s0 + (1 : Int32)).toNatClampNeg)) (fun M111 => if x_at M111 v1 1 (s0 + (2 : Int32)) = true then (x_lt (x_wi M111 v0 2 (x_i M111 v1 (s0 + (2 : Int32)).toNatClampNeg)) (fun M118 => if x_at M118 v1 1 (s0 + (3 : Int32)) = true then (x_lt (x_wi M118 v0 3 (x_i M118 v1 (s0 + (3 : Int32)).toNatClampNeg)) (fun M126 => if x_at M126 v1 1 (s0 + (4 : Int32)) = true then (x_lt (x_wi M126 v0 4 (x_i M126 v1 (s0 + (4 : Int32)).toNatClampNeg)) (fun M135 => if x_at M135 v1 1 (s0 + (5 : Int32)) = true then (x_lt (x_wi M135 v0 5 (x_i M135 v1 (s0 + (5 : Int32)).toNatClampNeg)) (fun M145 => if x_at M145 v1 1 (s0 + (6 : Int32)) = true then (x_lt (x_wi M145 v0 6 (x_i M145 v1 (s0 + (6 : Int32)).toNatClampNeg)) (fun M156 => if x_at M156 v1 1 (s0 + (7 : Int32)) = true then (x_lt (x_wi M156 v0 7 (x_i M156 v1 (s0 + (7 : Int32)).toNatClampNeg)) (fun M168 => some M168)) else none)) else none)) else none)) else none)) else none)) else none)) else none)) else none) else none)
set_option maxRecDepth 20000 in
set_option maxHeartbeats 4000000 in
theorem t_X9_all_c80 (l : Launch) {v0 : Nat} {v1 : Nat} {v2 : Int32} {s0 : Int32} {M : XM} {q : XM} (H : f_X9_all_c80 v0 v1 v2 s0 M = some q) : AW l m_X9_all 2 0 0 (x_Rv q) 0 0 83 [some (.ref v0), some (.ref v1), some (.int v2), none] [(.int s0)] M := by
  unfold f_X9_all_c80 at H
  refine x_istore_n 83 3 [some (.ref v0), some (.ref v1), some (.int v2), some (.int s0)] dX9_all_83 rfl rfl (Nat.le_of_ble_eq_true rfl) rfl ?_
  refine x_iload_n 84 2 dX9_all_84 rfl rfl ?_
  refine x_if_eq 85 163 dX9_all_85 (by decide) (fun c25 => ?_) (fun c25 => ?_)
  · replace H := x_ifp c25 H
    refine x_aload_n 163 1 dX9_all_163 rfl rfl ?_
    refine x_iload_n 164 3 dX9_all_164 rfl rfl ?_
    refine x_aload_n 165 0 dX9_all_165 rfl rfl ?_
    obtain ⟨h26, H⟩ := x_ckp H
    refine x_getf 166 93 9 0 (.int (x_i M v0 0)) dX9_all_166 lk_1030 (by decide) (by decide) rfl (fun _ => rfl) h26 ?_
    obtain ⟨h27, H⟩ := x_ckp H
    obtain ⟨M28, w29, H⟩ := x_lt_of H
    have h30 : x_tag M28 v0 = 9 + 10 := by rw [w29]; exact h26
    have h31 : x_at M28 v1 1 s0 = true := by rw [w29]; exact h27
    have h32 : x_tag M28 v1 = 1 := by rw [w29]; exact (x_at_1 h27)
    refine x_iast' 169 dX9_all_169 h27 w29 ?_
    refine x_aload_n 170 1 dX9_all_170 rfl rfl ?_
    refine x_iload_n 171 3 dX9_all_171 rfl rfl ?_
    refine x_iconst 172 (1 : Int32) dX9_all_172 (by decide) ?_
    refine x_iadd 173 dX9_all_173 ?_
    refine x_aload_n 174 0 dX9_all_174 rfl rfl ?_
    refine x_getf 175 7 9 1 (.int (x_i M28 v0 1)) dX9_all_175 lk_1031 (by decide) (by decide) rfl (fun _ => rfl) h30 ?_
    obtain ⟨h33, H⟩ := x_ckp H
    obtain ⟨M34, w35, H⟩ := x_lt_of H
    have h36 : x_tag M34 v0 = 9 + 10 := by rw [w35]; exact h30
    have h37 : x_at M34 v1 1 s0 = true := by rw [w35]; exact h31
    have h38 : x_tag M34 v1 = 1 := by rw [w35]; exact h32
    have h39 : x_at M34 v1 1 (s0 + (1 : Int32)) = true := by rw [w35]; exact h33
    refine x_iast' 178 dX9_all_178 h33 w35 ?_
    refine x_aload_n 179 1 dX9_all_179 rfl rfl ?_
    refine x_iload_n 180 3 dX9_all_180 rfl rfl ?_
    refine x_iconst 181 (2 : Int32) dX9_all_181 (by decide) ?_
    refine x_iadd 182 dX9_all_182 ?_
    refine x_aload_n 183 0 dX9_all_183 rfl rfl ?_
    refine x_getf 184 13 9 2 (.int (x_i M34 v0 2)) dX9_all_184 lk_1032 (by decide) (by decide) rfl (fun _ => rfl) h36 ?_
    obtain ⟨h40, H⟩ := x_ckp H
    obtain ⟨M41, w42, H⟩ := x_lt_of H
    have h43 : x_tag M41 v0 = 9 + 10 := by rw [w42]; exact h36
    have h44 : x_at M41 v1 1 s0 = true := by rw [w42]; exact h37
    have h45 : x_tag M41 v1 = 1 := by rw [w42]; exact h38
    have h46 : x_at M41 v1 1 (s0 + (1 : Int32)) = true := by rw [w42]; exact h39
    have h47 : x_at M41 v1 1 (s0 + (2 : Int32)) = true := by rw [w42]; exact h40
    refine x_iast' 187 dX9_all_187 h40 w42 ?_
    refine x_aload_n 188 1 dX9_all_188 rfl rfl ?_
    refine x_iload_n 189 3 dX9_all_189 rfl rfl ?_
    refine x_iconst 190 (3 : Int32) dX9_all_190 (by decide) ?_
    refine x_iadd 191 dX9_all_191 ?_
    refine x_aload_n 192 0 dX9_all_192 rfl rfl ?_
    refine x_getf 193 16 9 3 (.int (x_i M41 v0 3)) dX9_all_193 lk_1033 (by decide) (by decide) rfl (fun _ => rfl) h43 ?_
    obtain ⟨h48, H⟩ := x_ckp H
    obtain ⟨M49, w50, H⟩ := x_lt_of H
    have h51 : x_tag M49 v0 = 9 + 10 := by rw [w50]; exact h43
    have h52 : x_at M49 v1 1 s0 = true := by rw [w50]; exact h44
    have h53 : x_tag M49 v1 = 1 := by rw [w50]; exact h45
    have h54 : x_at M49 v1 1 (s0 + (1 : Int32)) = true := by rw [w50]; exact h46
    have h55 : x_at M49 v1 1 (s0 + (2 : Int32)) = true := by rw [w50]; exact h47
    have h56 : x_at M49 v1 1 (s0 + (3 : Int32)) = true := by rw [w50]; exact h48
    refine x_iast' 196 dX9_all_196 h48 w50 ?_
    refine x_aload_n 197 1 dX9_all_197 rfl rfl ?_
    refine x_iload_n 198 3 dX9_all_198 rfl rfl ?_
    refine x_iconst 199 (4 : Int32) dX9_all_199 (by decide) ?_
    refine x_iadd 200 dX9_all_200 ?_
    refine x_aload_n 201 0 dX9_all_201 rfl rfl ?_
    refine x_getf 202 19 9 4 (.int (x_i M49 v0 4)) dX9_all_202 lk_1034 (by decide) (by decide) rfl (fun _ => rfl) h51 ?_
    obtain ⟨h57, H⟩ := x_ckp H
    obtain ⟨M58, w59, H⟩ := x_lt_of H
    have h60 : x_tag M58 v0 = 9 + 10 := by rw [w59]; exact h51
    have h61 : x_at M58 v1 1 s0 = true := by rw [w59]; exact h52
    have h62 : x_tag M58 v1 = 1 := by rw [w59]; exact h53
    have h63 : x_at M58 v1 1 (s0 + (1 : Int32)) = true := by rw [w59]; exact h54
    have h64 : x_at M58 v1 1 (s0 + (2 : Int32)) = true := by rw [w59]; exact h55
    have h65 : x_at M58 v1 1 (s0 + (3 : Int32)) = true := by rw [w59]; exact h56
    have h66 : x_at M58 v1 1 (s0 + (4 : Int32)) = true := by rw [w59]; exact h57
    refine x_iast' 205 dX9_all_205 h57 w59 ?_
    refine x_aload_n 206 1 dX9_all_206 rfl rfl ?_
    refine x_iload_n 207 3 dX9_all_207 rfl rfl ?_
    refine x_iconst 208 (5 : Int32) dX9_all_208 (by decide) ?_
    refine x_iadd 209 dX9_all_209 ?_
    refine x_aload_n 210 0 dX9_all_210 rfl rfl ?_
    refine x_getf 211 173 9 5 (.int (x_i M58 v0 5)) dX9_all_211 lk_1035 (by decide) (by decide) rfl (fun _ => rfl) h60 ?_
    obtain ⟨h67, H⟩ := x_ckp H
    obtain ⟨M68, w69, H⟩ := x_lt_of H
    have h70 : x_tag M68 v0 = 9 + 10 := by rw [w69]; exact h60
    have h71 : x_at M68 v1 1 s0 = true := by rw [w69]; exact h61
    have h72 : x_tag M68 v1 = 1 := by rw [w69]; exact h62
    have h73 : x_at M68 v1 1 (s0 + (1 : Int32)) = true := by rw [w69]; exact h63
    have h74 : x_at M68 v1 1 (s0 + (2 : Int32)) = true := by rw [w69]; exact h64
    have h75 : x_at M68 v1 1 (s0 + (3 : Int32)) = true := by rw [w69]; exact h65
    have h76 : x_at M68 v1 1 (s0 + (4 : Int32)) = true := by rw [w69]; exact h66
    have h77 : x_at M68 v1 1 (s0 + (5 : Int32)) = true := by rw [w69]; exact h67
    refine x_iast' 214 dX9_all_214 h67 w69 ?_
    refine x_aload_n 215 1 dX9_all_215 rfl rfl ?_
    refine x_iload_n 216 3 dX9_all_216 rfl rfl ?_
    refine x_bipush 217 (6 : Int32) dX9_all_217 (by decide) ?_
    refine x_iadd 219 dX9_all_219 ?_
    refine x_aload_n 220 0 dX9_all_220 rfl rfl ?_
    refine x_getf 221 150 9 6 (.int (x_i M68 v0 6)) dX9_all_221 lk_1036 (by decide) (by decide) rfl (fun _ => rfl) h70 ?_
    obtain ⟨h78, H⟩ := x_ckp H
    obtain ⟨M79, w80, H⟩ := x_lt_of H
    have h81 : x_tag M79 v0 = 9 + 10 := by rw [w80]; exact h70
    have h82 : x_at M79 v1 1 s0 = true := by rw [w80]; exact h71
    have h83 : x_tag M79 v1 = 1 := by rw [w80]; exact h72
    have h84 : x_at M79 v1 1 (s0 + (1 : Int32)) = true := by rw [w80]; exact h73
    have h85 : x_at M79 v1 1 (s0 + (2 : Int32)) = true := by rw [w80]; exact h74
    have h86 : x_at M79 v1 1 (s0 + (3 : Int32)) = true := by rw [w80]; exact h75
    have h87 : x_at M79 v1 1 (s0 + (4 : Int32)) = true := by rw [w80]; exact h76
    have h88 : x_at M79 v1 1 (s0 + (5 : Int32)) = true := by rw [w80]; exact h77
    have h89 : x_at M79 v1 1 (s0 + (6 : Int32)) = true := by rw [w80]; exact h78
    refine x_iast' 224 dX9_all_224 h78 w80 ?_
    refine x_aload_n 225 1 dX9_all_225 rfl rfl ?_
    refine x_iload_n 226 3 dX9_all_226 rfl rfl ?_
    refine x_bipush 227 (7 : Int32) dX9_all_227 (by decide) ?_
    refine x_iadd 229 dX9_all_229 ?_
    refine x_aload_n 230 0 dX9_all_230 rfl rfl ?_
    refine x_getf 231 22 9 7 (.int (x_i M79 v0 7)) dX9_all_231 lk_1037 (by decide) (by decide) rfl (fun _ => rfl) h81 ?_
    obtain ⟨h90, H⟩ := x_ckp H
    obtain ⟨M91, w92, H⟩ := x_lt_of H
    have h93 : x_tag M91 v0 = 9 + 10 := by rw [w92]; exact h81
    have h94 : x_at M91 v1 1 s0 = true := by rw [w92]; exact h82
    have h95 : x_tag M91 v1 = 1 := by rw [w92]; exact h83
    have h96 : x_at M91 v1 1 (s0 + (1 : Int32)) = true := by rw [w92]; exact h84
    have h97 : x_at M91 v1 1 (s0 + (2 : Int32)) = true := by rw [w92]; exact h85
    have h98 : x_at M91 v1 1 (s0 + (3 : Int32)) = true := by rw [w92]; exact h86
    have h99 : x_at M91 v1 1 (s0 + (4 : Int32)) = true := by rw [w92]; exact h87
    have h100 : x_at M91 v1 1 (s0 + (5 : Int32)) = true := by rw [w92]; exact h88
    have h101 : x_at M91 v1 1 (s0 + (6 : Int32)) = true := by rw [w92]; exact h89
    have h102 : x_at M91 v1 1 (s0 + (7 : Int32)) = true := by rw [w92]; exact h90
    refine x_iast' 234 dX9_all_234 h90 w92 ?_
    cases H
    exact x_vret 235 dX9_all_235 rfl (Nat.le_of_ble_eq_true rfl) (Nat.le_of_ble_eq_true rfl) ⟨rfl, rfl⟩
  · replace H := x_ifn c25 H
    refine x_aload_n 88 0 dX9_all_88 rfl rfl ?_
    refine x_aload_n 89 1 dX9_all_89 rfl rfl ?_
    refine x_iload_n 90 3 dX9_all_90 rfl rfl ?_
    obtain ⟨h103, H⟩ := x_ckp H
    refine x_iald 91 dX9_all_91 h103 ?_
    obtain ⟨h104, H⟩ := x_ckp H
    obtain ⟨M105, w106, H⟩ := x_lt_of H
    have h107 : x_at M105 v1 1 s0 = true := by rw [w106]; exact h103
    have h108 : x_tag M105 v1 = 1 := by rw [w106]; exact (x_at_1 h103)
    have h109 : x_tag M105 v0 = 9 + 10 := by rw [w106]; exact h104
    refine x_putI' 92 93 9 0 dX9_all_92 lk_1030 (by decide) (by decide) rfl (Or.inl rfl) (Or.inl rfl) h104 w106 ?_
    refine x_aload_n 95 0 dX9_all_95 rfl rfl ?_
    refine x_aload_n 96 1 dX9_all_96 rfl rfl ?_
    refine x_iload_n 97 3 dX9_all_97 rfl rfl ?_
    refine x_iconst 98 (1 : Int32) dX9_all_98 (by decide) ?_
    refine x_iadd 99 dX9_all_99 ?_
    obtain ⟨h110, H⟩ := x_ckp H
    refine x_iald 100 dX9_all_100 h110 ?_
    obtain ⟨M111, w112, H⟩ := x_lt_of H
    have h113 : x_at M111 v1 1 s0 = true := by rw [w112]; exact h107
    have h114 : x_tag M111 v1 = 1 := by rw [w112]; exact h108
    have h115 : x_tag M111 v0 = 9 + 10 := by rw [w112]; exact h109
    have h116 : x_at M111 v1 1 (s0 + (1 : Int32)) = true := by rw [w112]; exact h110
    refine x_putI' 101 7 9 1 dX9_all_101 lk_1031 (by decide) (by decide) rfl (Or.inl rfl) (Or.inl rfl) h109 w112 ?_
    refine x_aload_n 104 0 dX9_all_104 rfl rfl ?_
    refine x_aload_n 105 1 dX9_all_105 rfl rfl ?_
    refine x_iload_n 106 3 dX9_all_106 rfl rfl ?_
    refine x_iconst 107 (2 : Int32) dX9_all_107 (by decide) ?_
    refine x_iadd 108 dX9_all_108 ?_
    obtain ⟨h117, H⟩ := x_ckp H
    refine x_iald 109 dX9_all_109 h117 ?_
    obtain ⟨M118, w119, H⟩ := x_lt_of H
    have h120 : x_at M118 v1 1 s0 = true := by rw [w119]; exact h113
    have h121 : x_tag M118 v1 = 1 := by rw [w119]; exact h114
    have h122 : x_tag M118 v0 = 9 + 10 := by rw [w119]; exact h115
    have h123 : x_at M118 v1 1 (s0 + (1 : Int32)) = true := by rw [w119]; exact h116
    have h124 : x_at M118 v1 1 (s0 + (2 : Int32)) = true := by rw [w119]; exact h117
    refine x_putI' 110 13 9 2 dX9_all_110 lk_1032 (by decide) (by decide) rfl (Or.inl rfl) (Or.inl rfl) h115 w119 ?_
    refine x_aload_n 113 0 dX9_all_113 rfl rfl ?_
    refine x_aload_n 114 1 dX9_all_114 rfl rfl ?_
    refine x_iload_n 115 3 dX9_all_115 rfl rfl ?_
    refine x_iconst 116 (3 : Int32) dX9_all_116 (by decide) ?_
    refine x_iadd 117 dX9_all_117 ?_
    obtain ⟨h125, H⟩ := x_ckp H
    refine x_iald 118 dX9_all_118 h125 ?_
    obtain ⟨M126, w127, H⟩ := x_lt_of H
    have h128 : x_at M126 v1 1 s0 = true := by rw [w127]; exact h120
    have h129 : x_tag M126 v1 = 1 := by rw [w127]; exact h121
    have h130 : x_tag M126 v0 = 9 + 10 := by rw [w127]; exact h122
    have h131 : x_at M126 v1 1 (s0 + (1 : Int32)) = true := by rw [w127]; exact h123
    have h132 : x_at M126 v1 1 (s0 + (2 : Int32)) = true := by rw [w127]; exact h124
    have h133 : x_at M126 v1 1 (s0 + (3 : Int32)) = true := by rw [w127]; exact h125
    refine x_putI' 119 16 9 3 dX9_all_119 lk_1033 (by decide) (by decide) rfl (Or.inl rfl) (Or.inl rfl) h122 w127 ?_
    refine x_aload_n 122 0 dX9_all_122 rfl rfl ?_
    refine x_aload_n 123 1 dX9_all_123 rfl rfl ?_
    refine x_iload_n 124 3 dX9_all_124 rfl rfl ?_
    refine x_iconst 125 (4 : Int32) dX9_all_125 (by decide) ?_
    refine x_iadd 126 dX9_all_126 ?_
    obtain ⟨h134, H⟩ := x_ckp H
    refine x_iald 127 dX9_all_127 h134 ?_
    obtain ⟨M135, w136, H⟩ := x_lt_of H
    have h137 : x_at M135 v1 1 s0 = true := by rw [w136]; exact h128
    have h138 : x_tag M135 v1 = 1 := by rw [w136]; exact h129
    have h139 : x_tag M135 v0 = 9 + 10 := by rw [w136]; exact h130
    have h140 : x_at M135 v1 1 (s0 + (1 : Int32)) = true := by rw [w136]; exact h131
    have h141 : x_at M135 v1 1 (s0 + (2 : Int32)) = true := by rw [w136]; exact h132
    have h142 : x_at M135 v1 1 (s0 + (3 : Int32)) = true := by rw [w136]; exact h133
    have h143 : x_at M135 v1 1 (s0 + (4 : Int32)) = true := by rw [w136]; exact h134
    refine x_putI' 128 19 9 4 dX9_all_128 lk_1034 (by decide) (by decide) rfl (Or.inl rfl) (Or.inl rfl) h130 w136 ?_
    refine x_aload_n 131 0 dX9_all_131 rfl rfl ?_
    refine x_aload_n 132 1 dX9_all_132 rfl rfl ?_
    refine x_iload_n 133 3 dX9_all_133 rfl rfl ?_
    refine x_iconst 134 (5 : Int32) dX9_all_134 (by decide) ?_
    refine x_iadd 135 dX9_all_135 ?_
    obtain ⟨h144, H⟩ := x_ckp H
    refine x_iald 136 dX9_all_136 h144 ?_
    obtain ⟨M145, w146, H⟩ := x_lt_of H
    have h147 : x_at M145 v1 1 s0 = true := by rw [w146]; exact h137
    have h148 : x_tag M145 v1 = 1 := by rw [w146]; exact h138
    have h149 : x_tag M145 v0 = 9 + 10 := by rw [w146]; exact h139
    have h150 : x_at M145 v1 1 (s0 + (1 : Int32)) = true := by rw [w146]; exact h140
    have h151 : x_at M145 v1 1 (s0 + (2 : Int32)) = true := by rw [w146]; exact h141
    have h152 : x_at M145 v1 1 (s0 + (3 : Int32)) = true := by rw [w146]; exact h142
    have h153 : x_at M145 v1 1 (s0 + (4 : Int32)) = true := by rw [w146]; exact h143
    have h154 : x_at M145 v1 1 (s0 + (5 : Int32)) = true := by rw [w146]; exact h144
    refine x_putI' 137 173 9 5 dX9_all_137 lk_1035 (by decide) (by decide) rfl (Or.inl rfl) (Or.inl rfl) h139 w146 ?_
    refine x_aload_n 140 0 dX9_all_140 rfl rfl ?_
    refine x_aload_n 141 1 dX9_all_141 rfl rfl ?_
    refine x_iload_n 142 3 dX9_all_142 rfl rfl ?_
    refine x_bipush 143 (6 : Int32) dX9_all_143 (by decide) ?_
    refine x_iadd 145 dX9_all_145 ?_
    obtain ⟨h155, H⟩ := x_ckp H
    refine x_iald 146 dX9_all_146 h155 ?_
    obtain ⟨M156, w157, H⟩ := x_lt_of H
    have h158 : x_at M156 v1 1 s0 = true := by rw [w157]; exact h147
    have h159 : x_tag M156 v1 = 1 := by rw [w157]; exact h148
    have h160 : x_tag M156 v0 = 9 + 10 := by rw [w157]; exact h149
    have h161 : x_at M156 v1 1 (s0 + (1 : Int32)) = true := by rw [w157]; exact h150
    have h162 : x_at M156 v1 1 (s0 + (2 : Int32)) = true := by rw [w157]; exact h151
    have h163 : x_at M156 v1 1 (s0 + (3 : Int32)) = true := by rw [w157]; exact h152
    have h164 : x_at M156 v1 1 (s0 + (4 : Int32)) = true := by rw [w157]; exact h153
    have h165 : x_at M156 v1 1 (s0 + (5 : Int32)) = true := by rw [w157]; exact h154
    have h166 : x_at M156 v1 1 (s0 + (6 : Int32)) = true := by rw [w157]; exact h155
    refine x_putI' 147 150 9 6 dX9_all_147 lk_1036 (by decide) (by decide) rfl (Or.inl rfl) (Or.inl rfl) h149 w157 ?_
    refine x_aload_n 150 0 dX9_all_150 rfl rfl ?_
    refine x_aload_n 151 1 dX9_all_151 rfl rfl ?_
    refine x_iload_n 152 3 dX9_all_152 rfl rfl ?_
    refine x_bipush 153 (7 : Int32) dX9_all_153 (by decide) ?_
    refine x_iadd 155 dX9_all_155 ?_
    obtain ⟨h167, H⟩ := x_ckp H
    refine x_iald 156 dX9_all_156 h167 ?_
    obtain ⟨M168, w169, H⟩ := x_lt_of H
    have h170 : x_at M168 v1 1 s0 = true := by rw [w169]; exact h158
    have h171 : x_tag M168 v1 = 1 := by rw [w169]; exact h159
    have h172 : x_tag M168 v0 = 9 + 10 := by rw [w169]; exact h160
    have h173 : x_at M168 v1 1 (s0 + (1 : Int32)) = true := by rw [w169]; exact h161
    have h174 : x_at M168 v1 1 (s0 + (2 : Int32)) = true := by rw [w169]; exact h162
    have h175 : x_at M168 v1 1 (s0 + (3 : Int32)) = true := by rw [w169]; exact h163
    have h176 : x_at M168 v1 1 (s0 + (4 : Int32)) = true := by rw [w169]; exact h164
    have h177 : x_at M168 v1 1 (s0 + (5 : Int32)) = true := by rw [w169]; exact h165
    have h178 : x_at M168 v1 1 (s0 + (6 : Int32)) = true := by rw [w169]; exact h166
    have h179 : x_at M168 v1 1 (s0 + (7 : Int32)) = true := by rw [w169]; exact h167
    refine x_putI' 157 22 9 7 dX9_all_157 lk_1037 (by decide) (by decide) rfl (Or.inl rfl) (Or.inl rfl) h160 w169 ?_
    refine x_goto 160 235 dX9_all_160 (by decide) ?_
    cases H
    exact x_vret 235 dX9_all_235 rfl (Nat.le_of_ble_eq_true rfl) (Nat.le_of_ble_eq_true rfl) ⟨rfl, rfl⟩

def f_X9_all_c66 (v0 : Nat) (v1 : Nat) (v2 : Int32) (s0 : Int32) (M : XM) : Option XM :=
  if x_tag M v0 = 9 + 10 then (x_bd (f_X9_carries v0 (x_r M v0 15) (8 : Int32) v1 s0 v2 M) (f_X9_all_c80 v0 v1 v2)) else none
set_option maxRecDepth 20000 in
set_option maxHeartbeats 4000000 in
theorem t_X9_all_c66 (l : Launch) {v0 : Nat} {v1 : Nat} {v2 : Int32} {s0 : Int32} {M : XM} {q : XM} (H : f_X9_all_c66 v0 v1 v2 s0 M = some q) : AW l m_X9_all 2 0 0 (x_Rv q) 0 0 69 [some (.ref v0), some (.ref v1), some (.int v2), none] [(.int s0)] M := by
  unfold f_X9_all_c66 at H
  refine x_istore_n 69 3 [some (.ref v0), some (.ref v1), some (.int v2), some (.int s0)] dX9_all_69 rfl rfl (Nat.le_of_ble_eq_true rfl) rfl ?_
  refine x_aload_n 70 0 dX9_all_70 rfl rfl ?_
  refine x_aload_n 71 0 dX9_all_71 rfl rfl ?_
  obtain ⟨h21, H⟩ := x_ckp H
  refine x_getf 72 47 9 15 (.ref (x_r M v0 15)) dX9_all_72 lk_1045 (by decide) (by decide) rfl (fun _ => rfl) h21 ?_
  refine x_bipush 75 (8 : Int32) dX9_all_75 (by decide) ?_
  refine x_aload_n 77 1 dX9_all_77 rfl rfl ?_
  refine x_iload_n 78 3 dX9_all_78 rfl rfl ?_
  refine x_iload_n 79 2 dX9_all_79 rfl rfl ?_
  obtain ⟨r23, M22, e24, H⟩ := x_bd_of H
  refine x_callV 80 169 9 [(.ref (x_r M v0 15)), (.int (8 : Int32)), (.ref v1), (.int s0), (.int v2)] [] dX9_all_80 (ct_X9_carries l e24) lk_1237 lk_1239 lk_44 (by decide) h21 lk_94 lk_1240 ⟨cn_X9_carries, (by decide), by decide⟩ rfl (Nat.le_of_ble_eq_true rfl) (Nat.le_of_ble_eq_true rfl) (Nat.le_of_ble_eq_true rfl) (x_ri ?_)
  exact x_wk (le_s (le_s (le_s (le_n le_0)))) (t_X9_all_c80 l H)

def f_X9_all_c52 (v0 : Nat) (v1 : Nat) (v2 : Int32) (s0 : Int32) (M : XM) : Option XM :=
  if x_tag M v0 = 9 + 10 then (x_bd (f_X9_carries v0 (x_r M v0 14) (6 : Int32) v1 s0 v2 M) (f_X9_all_c66 v0 v1 v2)) else none
set_option maxRecDepth 20000 in
set_option maxHeartbeats 4000000 in
theorem t_X9_all_c52 (l : Launch) {v0 : Nat} {v1 : Nat} {v2 : Int32} {s0 : Int32} {M : XM} {q : XM} (H : f_X9_all_c52 v0 v1 v2 s0 M = some q) : AW l m_X9_all 2 0 0 (x_Rv q) 0 0 55 [some (.ref v0), some (.ref v1), some (.int v2), none] [(.int s0)] M := by
  unfold f_X9_all_c52 at H
  refine x_istore_n 55 3 [some (.ref v0), some (.ref v1), some (.int v2), some (.int s0)] dX9_all_55 rfl rfl (Nat.le_of_ble_eq_true rfl) rfl ?_
  refine x_aload_n 56 0 dX9_all_56 rfl rfl ?_
  refine x_aload_n 57 0 dX9_all_57 rfl rfl ?_
  obtain ⟨h17, H⟩ := x_ckp H
  refine x_getf 58 44 9 14 (.ref (x_r M v0 14)) dX9_all_58 lk_1044 (by decide) (by decide) rfl (fun _ => rfl) h17 ?_
  refine x_bipush 61 (6 : Int32) dX9_all_61 (by decide) ?_
  refine x_aload_n 63 1 dX9_all_63 rfl rfl ?_
  refine x_iload_n 64 3 dX9_all_64 rfl rfl ?_
  refine x_iload_n 65 2 dX9_all_65 rfl rfl ?_
  obtain ⟨r19, M18, e20, H⟩ := x_bd_of H
  refine x_callV 66 169 9 [(.ref (x_r M v0 14)), (.int (6 : Int32)), (.ref v1), (.int s0), (.int v2)] [] dX9_all_66 (ct_X9_carries l e20) lk_1237 lk_1239 lk_44 (by decide) h17 lk_94 lk_1240 ⟨cn_X9_carries, (by decide), by decide⟩ rfl (Nat.le_of_ble_eq_true rfl) (Nat.le_of_ble_eq_true rfl) (Nat.le_of_ble_eq_true rfl) (x_ri ?_)
  exact x_wk (le_s (le_s (le_s (le_n le_0)))) (t_X9_all_c66 l H)

def f_X9_all_c38 (v0 : Nat) (v1 : Nat) (v2 : Int32) (s0 : Int32) (M : XM) : Option XM :=
  if x_tag M v0 = 9 + 10 then (x_bd (f_X9_carries v0 (x_r M v0 13) (6 : Int32) v1 s0 v2 M) (f_X9_all_c52 v0 v1 v2)) else none
set_option maxRecDepth 20000 in
set_option maxHeartbeats 4000000 in
theorem t_X9_all_c38 (l : Launch) {v0 : Nat} {v1 : Nat} {v2 : Int32} {s0 : Int32} {M : XM} {q : XM} (H : f_X9_all_c38 v0 v1 v2 s0 M = some q) : AW l m_X9_all 2 0 0 (x_Rv q) 0 0 41 [some (.ref v0), some (.ref v1), some (.int v2), none] [(.int s0)] M := by
  unfold f_X9_all_c38 at H
  refine x_istore_n 41 3 [some (.ref v0), some (.ref v1), some (.int v2), some (.int s0)] dX9_all_41 rfl rfl (Nat.le_of_ble_eq_true rfl) rfl ?_
  refine x_aload_n 42 0 dX9_all_42 rfl rfl ?_
  refine x_aload_n 43 0 dX9_all_43 rfl rfl ?_
  obtain ⟨h13, H⟩ := x_ckp H
  refine x_getf 44 41 9 13 (.ref (x_r M v0 13)) dX9_all_44 lk_1043 (by decide) (by decide) rfl (fun _ => rfl) h13 ?_
  refine x_bipush 47 (6 : Int32) dX9_all_47 (by decide) ?_
  refine x_aload_n 49 1 dX9_all_49 rfl rfl ?_
  refine x_iload_n 50 3 dX9_all_50 rfl rfl ?_
  refine x_iload_n 51 2 dX9_all_51 rfl rfl ?_
  obtain ⟨r15, M14, e16, H⟩ := x_bd_of H
  refine x_callV 52 169 9 [(.ref (x_r M v0 13)), (.int (6 : Int32)), (.ref v1), (.int s0), (.int v2)] [] dX9_all_52 (ct_X9_carries l e16) lk_1237 lk_1239 lk_44 (by decide) h13 lk_94 lk_1240 ⟨cn_X9_carries, (by decide), by decide⟩ rfl (Nat.le_of_ble_eq_true rfl) (Nat.le_of_ble_eq_true rfl) (Nat.le_of_ble_eq_true rfl) (x_ri ?_)
  exact x_wk (le_s (le_s (le_s (le_n le_0)))) (t_X9_all_c52 l H)

def f_X9_all_c24 (v0 : Nat) (v1 : Nat) (v2 : Int32) (s0 : Int32) (M : XM) : Option XM :=
  if x_tag M v0 = 9 + 10 then (x_bd (f_X9_carries v0 (x_r M v0 12) (6 : Int32) v1 s0 v2 M) (f_X9_all_c38 v0 v1 v2)) else none
set_option maxRecDepth 20000 in
set_option maxHeartbeats 4000000 in
theorem t_X9_all_c24 (l : Launch) {v0 : Nat} {v1 : Nat} {v2 : Int32} {s0 : Int32} {M : XM} {q : XM} (H : f_X9_all_c24 v0 v1 v2 s0 M = some q) : AW l m_X9_all 2 0 0 (x_Rv q) 0 0 27 [some (.ref v0), some (.ref v1), some (.int v2), none] [(.int s0)] M := by
  unfold f_X9_all_c24 at H
  refine x_istore_n 27 3 [some (.ref v0), some (.ref v1), some (.int v2), some (.int s0)] dX9_all_27 rfl rfl (Nat.le_of_ble_eq_true rfl) rfl ?_
  refine x_aload_n 28 0 dX9_all_28 rfl rfl ?_
  refine x_aload_n 29 0 dX9_all_29 rfl rfl ?_
  obtain ⟨h9, H⟩ := x_ckp H
  refine x_getf 30 38 9 12 (.ref (x_r M v0 12)) dX9_all_30 lk_1042 (by decide) (by decide) rfl (fun _ => rfl) h9 ?_
  refine x_bipush 33 (6 : Int32) dX9_all_33 (by decide) ?_
  refine x_aload_n 35 1 dX9_all_35 rfl rfl ?_
  refine x_iload_n 36 3 dX9_all_36 rfl rfl ?_
  refine x_iload_n 37 2 dX9_all_37 rfl rfl ?_
  obtain ⟨r11, M10, e12, H⟩ := x_bd_of H
  refine x_callV 38 169 9 [(.ref (x_r M v0 12)), (.int (6 : Int32)), (.ref v1), (.int s0), (.int v2)] [] dX9_all_38 (ct_X9_carries l e12) lk_1237 lk_1239 lk_44 (by decide) h9 lk_94 lk_1240 ⟨cn_X9_carries, (by decide), by decide⟩ rfl (Nat.le_of_ble_eq_true rfl) (Nat.le_of_ble_eq_true rfl) (Nat.le_of_ble_eq_true rfl) (x_ri ?_)
  exact x_wk (le_s (le_s (le_s (le_n le_0)))) (t_X9_all_c38 l H)

def f_X9_all_c10 (v0 : Nat) (v1 : Nat) (v2 : Int32) (s0 : Int32) (M : XM) : Option XM :=
  if x_tag M v0 = 9 + 10 then (x_bd (f_X9_carries v0 (x_r M v0 11) (6 : Int32) v1 s0 v2 M) (f_X9_all_c24 v0 v1 v2)) else none
set_option maxRecDepth 20000 in
set_option maxHeartbeats 4000000 in
theorem t_X9_all_c10 (l : Launch) {v0 : Nat} {v1 : Nat} {v2 : Int32} {s0 : Int32} {M : XM} {q : XM} (H : f_X9_all_c10 v0 v1 v2 s0 M = some q) : AW l m_X9_all 2 0 0 (x_Rv q) 0 0 13 [some (.ref v0), some (.ref v1), some (.int v2), none] [(.int s0)] M := by
  unfold f_X9_all_c10 at H
  refine x_istore_n 13 3 [some (.ref v0), some (.ref v1), some (.int v2), some (.int s0)] dX9_all_13 rfl rfl (Nat.le_of_ble_eq_true rfl) rfl ?_
  refine x_aload_n 14 0 dX9_all_14 rfl rfl ?_
  refine x_aload_n 15 0 dX9_all_15 rfl rfl ?_
  obtain ⟨h5, H⟩ := x_ckp H
  refine x_getf 16 35 9 11 (.ref (x_r M v0 11)) dX9_all_16 lk_1041 (by decide) (by decide) rfl (fun _ => rfl) h5 ?_
  refine x_bipush 19 (6 : Int32) dX9_all_19 (by decide) ?_
  refine x_aload_n 21 1 dX9_all_21 rfl rfl ?_
  refine x_iload_n 22 3 dX9_all_22 rfl rfl ?_
  refine x_iload_n 23 2 dX9_all_23 rfl rfl ?_
  obtain ⟨r7, M6, e8, H⟩ := x_bd_of H
  refine x_callV 24 169 9 [(.ref (x_r M v0 11)), (.int (6 : Int32)), (.ref v1), (.int s0), (.int v2)] [] dX9_all_24 (ct_X9_carries l e8) lk_1237 lk_1239 lk_44 (by decide) h5 lk_94 lk_1240 ⟨cn_X9_carries, (by decide), by decide⟩ rfl (Nat.le_of_ble_eq_true rfl) (Nat.le_of_ble_eq_true rfl) (Nat.le_of_ble_eq_true rfl) (x_ri ?_)
  exact x_wk (le_s (le_s (le_s (le_n le_0)))) (t_X9_all_c24 l H)

def f_X9_all (v0 : Nat) (v1 : Nat) (v2 : Int32) (M : XM) : Option XM :=
  if x_tag M v0 = 9 + 10 then (x_bd (f_X9_carries v0 (x_r M v0 10) (6 : Int32) v1 (0 : Int32) v2 M) (f_X9_all_c10 v0 v1 v2)) else none
set_option maxRecDepth 20000 in
set_option maxHeartbeats 4000000 in
theorem t_X9_all (l : Launch) {v0 : Nat} {v1 : Nat} {v2 : Int32} {M : XM} {q : XM} (H : f_X9_all v0 v1 v2 M = some q) : AW l m_X9_all 2 0 0 (x_Rv q) 0 0 0 [some (.ref v0), some (.ref v1), some (.int v2), none] [] M := by
  unfold f_X9_all at H
  refine x_aload_n 0 0 dX9_all_0 rfl rfl ?_
  refine x_aload_n 1 0 dX9_all_1 rfl rfl ?_
  obtain ⟨h1, H⟩ := x_ckp H
  refine x_getf 2 32 9 10 (.ref (x_r M v0 10)) dX9_all_2 lk_1040 (by decide) (by decide) rfl (fun _ => rfl) h1 ?_
  refine x_bipush 5 (6 : Int32) dX9_all_5 (by decide) ?_
  refine x_aload_n 7 1 dX9_all_7 rfl rfl ?_
  refine x_iconst 8 (0 : Int32) dX9_all_8 (by decide) ?_
  refine x_iload_n 9 2 dX9_all_9 rfl rfl ?_
  obtain ⟨r3, M2, e4, H⟩ := x_bd_of H
  refine x_callV 10 169 9 [(.ref (x_r M v0 10)), (.int (6 : Int32)), (.ref v1), (.int (0 : Int32)), (.int v2)] [] dX9_all_10 (ct_X9_carries l e4) lk_1237 lk_1239 lk_44 (by decide) h1 lk_94 lk_1240 ⟨cn_X9_carries, (by decide), by decide⟩ rfl (Nat.le_of_ble_eq_true rfl) (Nat.le_of_ble_eq_true rfl) (Nat.le_of_ble_eq_true rfl) (x_ri ?_)
  exact t_X9_all_c10 l H

theorem ct_X9_all (l : Launch) {v0 : Nat} {v1 : Nat} {v2 : Int32} {M : XM} {q : XM} (H : f_X9_all v0 v1 v2 M = some q) : Ct l m_X9_all 2 0 0 [(.ref v0), (.ref v1), (.int v2)] M (x_Rv q) := x_met l m_X9_all 2 0 0 [(.ref v0), (.ref v1), (.int v2)] M (x_Rv q) _ rfl rfl (Nat.le_of_ble_eq_true rfl) (t_X9_all l H)
theorem lk_1236 : Cond.code yX9_all cX9_all 4 none ∈ x_TB := x_tb (k := 1236) (by decide +kernel) rfl
theorem lk_1233 : Cond.methodLink RX9 176 yX9_all ∈ x_TB := x_tb (k := 1233) (by decide +kernel) rfl
theorem lk_43 : Cond.selects RX9 yX9_all yX9_all ∈ x_TB := x_tb (k := 43) (by decide +kernel) rfl
theorem lk_1235 : Cond.instanceMethod yX9_all ∈ x_TB := x_tb (k := 1235) (by decide +kernel) rfl
theorem lk_1244 : Cond.code yX9_item cX9_item 4 (some .boolean) ∈ x_TB := x_tb (k := 1244) (by decide +kernel) rfl
theorem lk_1241 : Cond.methodLink RX9 180 yX9_item ∈ x_TB := x_tb (k := 1241) (by decide +kernel) rfl
theorem lk_45 : Cond.selects RX9 yX9_item yX9_item ∈ x_TB := x_tb (k := 45) (by decide +kernel) rfl
theorem lk_1243 : Cond.instanceMethod yX9_item ∈ x_TB := x_tb (k := 1243) (by decide +kernel) rfl
abbrev m_X9_room : XU := (yX9_room, cX9_room, 5, (some .int))
theorem cn_X9_room : m_X9_room.1.cls ≠ "java/lang/invoke/MethodHandle" ∧ m_X9_room.1.cls ≠ "java/lang/invoke/VarHandle" ∧ (parseMethodDescriptor m_X9_room.1.desc).map (fun q => q.parameters.length) = some 1 := by decide +kernel
def f_X9_room_c146 (v0 : Nat) (M : XM) : Option (Int32 × XM) :=
  if x_tag M v0 = 9 + 10 then (x_lt (x_wi M v0 8 (x_i M v0 28)) (fun M38 => x_bd (f_X9_no v0 (-6 : Int32) M38) (fun r42 M41 => some (r42, M41)))) else none
set_option maxRecDepth 20000 in
set_option maxHeartbeats 4000000 in
theorem t_X9_room_c146 (l : Launch) {v0 : Nat} {M : XM} {q : Int32 × XM} (H : f_X9_room_c146 v0 M = some q) : AW l m_X9_room 4 0 0 (x_Ri q) 0 0 149 [some (.ref v0), none, none, none, none] [] M := by
  unfold f_X9_room_c146 at H
  refine x_aload_n 149 0 dX9_room_149 rfl rfl ?_
  refine x_aload_n 150 0 dX9_room_150 rfl rfl ?_
  obtain ⟨h37, H⟩ := x_ckp H
  refine x_getf 151 125 9 28 (.int (x_i M v0 28)) dX9_room_151 lk_1058 (by decide) (by decide) rfl (fun _ => rfl) h37 ?_
  obtain ⟨M38, w39, H⟩ := x_lt_of H
  have h40 : x_tag M38 v0 = 9 + 10 := by rw [w39]; exact h37
  refine x_putI' 154 25 9 8 dX9_room_154 lk_1038 (by decide) (by decide) rfl (Or.inl rfl) (Or.inl rfl) h37 w39 ?_
  refine x_aload_n 157 0 dX9_room_157 rfl rfl ?_
  refine x_bipush 158 (-6 : Int32) dX9_room_158 (by decide) ?_
  obtain ⟨r42, M41, e43, H⟩ := x_bd_of H
  refine x_callV 160 100 9 [(.int (-6 : Int32))] [] dX9_room_160 (ct_X9_no l e43) lk_1165 lk_1167 lk_37 (by decide) h40 lk_94 lk_1168 ⟨cn_X9_no, (by decide), by decide⟩ rfl (Nat.le_of_ble_eq_true rfl) (Nat.le_of_ble_eq_true rfl) (Nat.le_of_ble_eq_true rfl) (x_ri ?_)
  cases H
  exact x_iret 163 dX9_room_163 .int rfl rfl (Nat.le_of_ble_eq_true rfl) (Nat.le_of_ble_eq_true rfl) ⟨rfl, rfl⟩

def f_X9_room_133 (v0 : Nat) (v3 : Int32) (v4 : Int32) (M : XM) : Option (Int32 × XM) :=
  if v4 = 0 then (if x_tag M v0 = 9 + 10 then (x_bv (f_X9_all v0 (x_r M v0 29) (1 : Int32) M) (f_X9_room_c146 v0)) else none) else (some (v3, M))
set_option maxRecDepth 20000 in
set_option maxHeartbeats 4000000 in
theorem t_X9_room_133 (l : Launch) {v0 : Nat} {v3 : Int32} {v4 : Int32} {M : XM} {q : Int32 × XM} (H : f_X9_room_133 v0 v3 v4 M = some q) : AW l m_X9_room 4 0 0 (x_Ri q) 0 0 133 [some (.ref v0), none, none, some (.int v3), some (.int v4)] [] M := by
  unfold f_X9_room_133 at H
  refine x_iload 133 4 dX9_room_133 rfl ?_
  refine x_if_eq 135 140 dX9_room_135 (by decide) (fun c32 => ?_) (fun c32 => ?_)
  · replace H := x_ifp c32 H
    refine x_aload_n 140 0 dX9_room_140 rfl rfl ?_
    refine x_aload_n 141 0 dX9_room_141 rfl rfl ?_
    obtain ⟨h33, H⟩ := x_ckp H
    refine x_getf 142 75 9 29 (.ref (x_r M v0 29)) dX9_room_142 lk_1059 (by decide) (by decide) rfl (fun _ => rfl) h33 ?_
    refine x_iconst 145 (1 : Int32) dX9_room_145 (by decide) ?_
    obtain ⟨M34, e36, H⟩ := x_bv_of H
    refine x_callV 146 176 9 [(.ref (x_r M v0 29)), (.int (1 : Int32))] [] dX9_room_146 (ct_X9_all l e36) lk_1233 lk_1235 lk_43 (by decide) h33 lk_94 lk_1236 ⟨cn_X9_all, (by decide), by decide⟩ rfl (Nat.le_of_ble_eq_true rfl) (Nat.le_of_ble_eq_true rfl) (Nat.le_of_ble_eq_true rfl) (x_rv ?_)
    exact x_wk (le_s (le_s (le_s (le_n (le_n le_0))))) (t_X9_room_c146 l H)
  · replace H := x_ifn c32 H
    refine x_iload_n 138 3 dX9_room_138 rfl rfl ?_
    cases H
    exact x_iret 139 dX9_room_139 .int rfl rfl (Nat.le_of_ble_eq_true rfl) (Nat.le_of_ble_eq_true rfl) ⟨rfl, rfl⟩

def f_X9_room_c125 (κ62 : Nat → Int32 → Int32 → XM → Option (Int32 × XM)) (v0 : Nat) (v3 : Int32) (s0 : Int32) (M : XM) : Option (Int32 × XM) :=
  κ62 v0 v3 s0 M
set_option maxRecDepth 20000 in
set_option maxHeartbeats 4000000 in
theorem t_X9_room_c125 (l : Launch) {κ62 : Nat → Int32 → Int32 → XM → Option (Int32 × XM)} {v0 : Nat} {v3 : Int32} {s0 : Int32} {M : XM} {q : Int32 × XM} (hκ62 : ∀ (v0 : Nat) (v3 : Int32) (v4 : Int32) (M : XM), κ62 v0 v3 v4 M = some q → AW l m_X9_room 4 0 0 (x_Ri q) 0 0 62 [some (.ref v0), none, none, some (.int v3), some (.int v4)] [] M) (H : f_X9_room_c125 κ62 v0 v3 s0 M = some q) : AW l m_X9_room 4 0 0 (x_Ri q) 0 0 128 [some (.ref v0), none, none, some (.int v3), none] [(.int s0)] M := by
  unfold f_X9_room_c125 at H
  refine x_istore 128 4 [some (.ref v0), none, none, some (.int v3), some (.int s0)] dX9_room_128 rfl (Nat.le_of_ble_eq_true rfl) rfl ?_
  refine x_goto 130 62 dX9_room_130 (by decide) ?_
  exact hκ62 _ _ _ _ H

def f_X9_room_c103 (κ62 : Nat → Int32 → Int32 → XM → Option (Int32 × XM)) (v0 : Nat) (v3 : Int32) (s0 : Int32) (M : XM) : Option (Int32 × XM) :=
  κ62 v0 v3 s0 M
set_option maxRecDepth 20000 in
set_option maxHeartbeats 4000000 in
theorem t_X9_room_c103 (l : Launch) {κ62 : Nat → Int32 → Int32 → XM → Option (Int32 × XM)} {v0 : Nat} {v3 : Int32} {s0 : Int32} {M : XM} {q : Int32 × XM} (hκ62 : ∀ (v0 : Nat) (v3 : Int32) (v4 : Int32) (M : XM), κ62 v0 v3 v4 M = some q → AW l m_X9_room 4 0 0 (x_Ri q) 0 0 62 [some (.ref v0), none, none, some (.int v3), some (.int v4)] [] M) (H : f_X9_room_c103 κ62 v0 v3 s0 M = some q) : AW l m_X9_room 4 0 0 (x_Ri q) 0 0 106 [some (.ref v0), none, none, some (.int v3), none] [(.int s0)] M := by
  unfold f_X9_room_c103 at H
  refine x_istore 106 4 [some (.ref v0), none, none, some (.int v3), some (.int s0)] dX9_room_106 rfl (Nat.le_of_ble_eq_true rfl) rfl ?_
  refine x_goto 108 62 dX9_room_108 (by decide) ?_
  exact hκ62 _ _ _ _ H

def bd_X9_room_62 (κ62 : Nat → Int32 → Int32 → XM → Option (Int32 × XM)) (v0 : Nat) (v3 : Int32) (v4 : Int32) (M : XM) : Option (Int32 × XM) :=
  if v4 = 0 then (f_X9_room_133 v0 v3 v4 M) else (if x_tag M v0 = 9 + 10 then (if (x_i M v0 26) ≤ (x_i M v0 25) then (f_X9_room_133 v0 v3 v4 M) else (if x_at M (x_r M v0 20) 2 ((x_i M v0 24) + (x_i M v0 25)) = true then (if ((x_j M (x_r M v0 20) ((x_i M v0 24) + (x_i M v0 25)).toNatClampNeg).toInt32) = (59 : Int32) then (x_lt (x_wi M v0 25 ((x_i M v0 25) + (1 : Int32))) (fun M48 => x_bd (f_X9_item v0 M48) (f_X9_room_c125 κ62 v0 (v3 + (1 : Int32))))) else (x_bd (f_X9_wrong v0 (x_i M v0 25) M) (f_X9_room_c103 κ62 v0 v3))) else none)) else none)
set_option maxRecDepth 20000 in
set_option maxHeartbeats 4000000 in
theorem tb_X9_room_62 (l : Launch) {κ62 : Nat → Int32 → Int32 → XM → Option (Int32 × XM)} {v0 : Nat} {v3 : Int32} {v4 : Int32} {M : XM} {q : Int32 × XM} (hκ62 : ∀ (v0 : Nat) (v3 : Int32) (v4 : Int32) (M : XM), κ62 v0 v3 v4 M = some q → AW l m_X9_room 4 0 0 (x_Ri q) 0 0 62 [some (.ref v0), none, none, some (.int v3), some (.int v4)] [] M) (H : bd_X9_room_62 κ62 v0 v3 v4 M = some q) : AW l m_X9_room 4 0 0 (x_Ri q) 0 0 62 [some (.ref v0), none, none, some (.int v3), some (.int v4)] [] M := by
  unfold bd_X9_room_62 at H
  refine x_iload 62 4 dX9_room_62 rfl ?_
  refine x_if_eq 64 133 dX9_room_64 (by decide) (fun c31 => ?_) (fun c31 => ?_)
  · replace H := x_ifp c31 H
    exact t_X9_room_133 l H
  · replace H := x_ifn c31 H
    refine x_aload_n 67 0 dX9_room_67 rfl rfl ?_
    obtain ⟨h44, H⟩ := x_ckp H
    refine x_getf 68 128 9 25 (.int (x_i M v0 25)) dX9_room_68 lk_1055 (by decide) (by decide) rfl (fun _ => rfl) h44 ?_
    refine x_aload_n 71 0 dX9_room_71 rfl rfl ?_
    refine x_getf 72 131 9 26 (.int (x_i M v0 26)) dX9_room_72 lk_1056 (by decide) (by decide) rfl (fun _ => rfl) h44 ?_
    refine x_icmp_ge 75 133 dX9_room_75 (by decide) (fun c45 => ?_) (fun c45 => ?_)
    · replace H := x_ifp c45 H
      exact t_X9_room_133 l H
    · replace H := x_ifn c45 H
      refine x_aload_n 78 0 dX9_room_78 rfl rfl ?_
      refine x_getf 79 62 9 20 (.ref (x_r M v0 20)) dX9_room_79 lk_1050 (by decide) (by decide) rfl (fun _ => rfl) h44 ?_
      refine x_aload_n 82 0 dX9_room_82 rfl rfl ?_
      refine x_getf 83 134 9 24 (.int (x_i M v0 24)) dX9_room_83 lk_1054 (by decide) (by decide) rfl (fun _ => rfl) h44 ?_
      refine x_aload_n 86 0 dX9_room_86 rfl rfl ?_
      refine x_getf 87 128 9 25 (.int (x_i M v0 25)) dX9_room_87 lk_1055 (by decide) (by decide) rfl (fun _ => rfl) h44 ?_
      refine x_iadd 90 dX9_room_90 ?_
      obtain ⟨h46, H⟩ := x_ckp H
      refine x_lald 91 dX9_room_91 h46 ?_
      refine x_l2i 92 dX9_room_92 ?_
      refine x_bipush 93 (59 : Int32) dX9_room_93 (by decide) ?_
      refine x_icmp_eq 95 111 dX9_room_95 (by decide) (fun c47 => ?_) (fun c47 => ?_)
      · replace H := x_ifp c47 H
        refine x_aload_n 111 0 dX9_room_111 rfl rfl ?_
        refine x_dup 112 dX9_room_112 rfl ?_
        refine x_getf 113 128 9 25 (.int (x_i M v0 25)) dX9_room_113 lk_1055 (by decide) (by decide) rfl (fun _ => rfl) h44 ?_
        refine x_iconst 116 (1 : Int32) dX9_room_116 (by decide) ?_
        refine x_iadd 117 dX9_room_117 ?_
        obtain ⟨M48, w49, H⟩ := x_lt_of H
        have h50 : x_tag M48 v0 = 9 + 10 := by rw [w49]; exact h44
        have h51 : x_at M48 (x_r M v0 20) 2 ((x_i M v0 24) + (x_i M v0 25)) = true := by rw [w49]; exact h46
        have h52 : x_tag M48 (x_r M v0 20) = 2 := by rw [w49]; exact (x_at_1 h46)
        refine x_putI' 118 128 9 25 dX9_room_118 lk_1055 (by decide) (by decide) rfl (Or.inl rfl) (Or.inl rfl) h44 w49 ?_
        refine x_iinc 121 3 (v3 + (1 : Int32)) [some (.ref v0), none, none, some (.int (v3 + (1 : Int32))), some (.int v4)] dX9_room_121 rfl (congrArg (fun z : Int32 => v3 + z) (show Int32.ofInt (1) = (1 : Int32) by decide)) rfl (Nat.le_of_ble_eq_true rfl) rfl ?_
        refine x_aload_n 124 0 dX9_room_124 rfl rfl ?_
        obtain ⟨r54, M53, e55, H⟩ := x_bd_of H
        refine x_callV 125 180 9 [] [] dX9_room_125 (ct_X9_item l e55) lk_1241 lk_1243 lk_45 (by decide) h50 lk_94 lk_1244 ⟨cn_X9_item, (by decide), by decide⟩ rfl (Nat.le_of_ble_eq_true rfl) (Nat.le_of_ble_eq_true rfl) (Nat.le_of_ble_eq_true rfl) (x_ri ?_)
        exact x_wk (le_s (le_s (le_s (le_s (le_n le_0))))) (t_X9_room_c125 l hκ62 H)
      · replace H := x_ifn c47 H
        refine x_aload_n 98 0 dX9_room_98 rfl rfl ?_
        refine x_aload_n 99 0 dX9_room_99 rfl rfl ?_
        refine x_getf 100 128 9 25 (.int (x_i M v0 25)) dX9_room_100 lk_1055 (by decide) (by decide) rfl (fun _ => rfl) h44 ?_
        obtain ⟨r57, M56, e58, H⟩ := x_bd_of H
        refine x_callV 103 144 9 [(.int (x_i M v0 25))] [] dX9_room_103 (ct_X9_wrong l e58) lk_1249 lk_1251 lk_47 (by decide) h44 lk_94 lk_1252 ⟨cn_X9_wrong, (by decide), by decide⟩ rfl (Nat.le_of_ble_eq_true rfl) (Nat.le_of_ble_eq_true rfl) (Nat.le_of_ble_eq_true rfl) (x_ri ?_)
        exact x_wk (le_s (le_s (le_s (le_s (le_n le_0))))) (t_X9_room_c103 l hκ62 H)

def lp_X9_room_62 (n : Nat) : Nat → Int32 → Int32 → XM → Option (Int32 × XM) := x_rec (fun _ _ _ _ => none) (bd_X9_room_62) n
theorem t_X9_room_62 (l : Launch) {q : Int32 × XM} : ∀ (n : Nat) (v0 : Nat) (v3 : Int32) (v4 : Int32) (M : XM), lp_X9_room_62 n v0 v3 v4 M = some q → AW l m_X9_room 4 0 0 (x_Ri q) 0 0 62 [some (.ref v0), none, none, some (.int v3), some (.int v4)] [] M := by
  intro n
  induction n with
  | zero => intro v0 v3 v4 M H; cases H
  | succ n ih => intro v0 v3 v4 M H; exact tb_X9_room_62 l ih H
def f_X9_room_c57 (v0 : Nat) (v3 : Int32) (s0 : Int32) (M : XM) : Option (Int32 × XM) :=
  lp_X9_room_62 x_fuel v0 v3 s0 M
set_option maxRecDepth 20000 in
set_option maxHeartbeats 4000000 in
theorem t_X9_room_c57 (l : Launch) {v0 : Nat} {v3 : Int32} {s0 : Int32} {M : XM} {q : Int32 × XM} (H : f_X9_room_c57 v0 v3 s0 M = some q) : AW l m_X9_room 4 0 0 (x_Ri q) 0 0 60 [some (.ref v0), none, none, some (.int v3), none] [(.int s0)] M := by
  unfold f_X9_room_c57 at H
  refine x_istore 60 4 [some (.ref v0), none, none, some (.int v3), some (.int s0)] dX9_room_60 rfl (Nat.le_of_ble_eq_true rfl) rfl ?_
  exact t_X9_room_62 l _ _ _ _ _ H

def f_X9_room_c22 (v0 : Nat) (v1 : Int32) (M : XM) : Option (Int32 × XM) :=
  if x_tag M v0 = 9 + 10 then (x_lt (x_wi M v0 24 ((160 : Int32) * v1)) (fun M11 => x_lt (x_wi M11 v0 25 (0 : Int32)) (fun M14 => if x_at M14 (x_r M14 v0 18) 1 v1 = true then (x_lt (x_wi M14 v0 26 (x_i M14 (x_r M14 v0 18) v1.toNatClampNeg)) (fun M18 => x_lt (x_wi M18 v0 8 (-1 : Int32)) (fun M23 => x_bd (f_X9_item v0 M23) (f_X9_room_c57 v0 (1 : Int32))))) else none))) else none
set_option maxRecDepth 20000 in
set_option maxHeartbeats 4000000 in
theorem t_X9_room_c22 (l : Launch) {v0 : Nat} {v1 : Int32} {M : XM} {q : Int32 × XM} (H : f_X9_room_c22 v0 v1 M = some q) : AW l m_X9_room 4 0 0 (x_Ri q) 0 0 25 [some (.ref v0), some (.int v1), none, none, none] [] M := by
  unfold f_X9_room_c22 at H
  refine x_aload_n 25 0 dX9_room_25 rfl rfl ?_
  refine x_sipush 26 (160 : Int32) dX9_room_26 (by decide) ?_
  refine x_iload_n 29 1 dX9_room_29 rfl rfl ?_
  refine x_imul 30 dX9_room_30 ?_
  obtain ⟨h10, H⟩ := x_ckp H
  obtain ⟨M11, w12, H⟩ := x_lt_of H
  have h13 : x_tag M11 v0 = 9 + 10 := by rw [w12]; exact h10
  refine x_putI' 31 134 9 24 dX9_room_31 lk_1054 (by decide) (by decide) rfl (Or.inl rfl) (Or.inl rfl) h10 w12 ?_
  refine x_aload_n 34 0 dX9_room_34 rfl rfl ?_
  refine x_iconst 35 (0 : Int32) dX9_room_35 (by decide) ?_
  obtain ⟨M14, w15, H⟩ := x_lt_of H
  have h16 : x_tag M14 v0 = 9 + 10 := by rw [w15]; exact h13
  refine x_putI' 36 128 9 25 dX9_room_36 lk_1055 (by decide) (by decide) rfl (Or.inl rfl) (Or.inl rfl) h13 w15 ?_
  refine x_aload_n 39 0 dX9_room_39 rfl rfl ?_
  refine x_aload_n 40 0 dX9_room_40 rfl rfl ?_
  refine x_getf 41 56 9 18 (.ref (x_r M14 v0 18)) dX9_room_41 lk_1048 (by decide) (by decide) rfl (fun _ => rfl) h16 ?_
  refine x_iload_n 44 1 dX9_room_44 rfl rfl ?_
  obtain ⟨h17, H⟩ := x_ckp H
  refine x_iald 45 dX9_room_45 h17 ?_
  obtain ⟨M18, w19, H⟩ := x_lt_of H
  have h20 : x_tag M18 v0 = 9 + 10 := by rw [w19]; exact h16
  have h21 : x_at M18 (x_r M14 v0 18) 1 v1 = true := by rw [w19]; exact h17
  have h22 : x_tag M18 (x_r M14 v0 18) = 1 := by rw [w19]; exact (x_at_1 h17)
  refine x_putI' 46 131 9 26 dX9_room_46 lk_1056 (by decide) (by decide) rfl (Or.inl rfl) (Or.inl rfl) h16 w19 ?_
  refine x_aload_n 49 0 dX9_room_49 rfl rfl ?_
  refine x_iconst 50 (-1 : Int32) dX9_room_50 (by decide) ?_
  obtain ⟨M23, w24, H⟩ := x_lt_of H
  have h25 : x_tag M23 v0 = 9 + 10 := by rw [w24]; exact h20
  have h26 : x_at M23 (x_r M14 v0 18) 1 v1 = true := by rw [w24]; exact h21
  have h27 : x_tag M23 (x_r M14 v0 18) = 1 := by rw [w24]; exact h22
  refine x_putI' 51 25 9 8 dX9_room_51 lk_1038 (by decide) (by decide) rfl (Or.inl rfl) (Or.inl rfl) h20 w24 ?_
  refine x_iconst 54 (1 : Int32) dX9_room_54 (by decide) ?_
  refine x_istore_n 55 3 [some (.ref v0), some (.int v1), none, some (.int (1 : Int32)), none] dX9_room_55 rfl rfl (Nat.le_of_ble_eq_true rfl) rfl ?_
  refine x_aload_n 56 0 dX9_room_56 rfl rfl ?_
  obtain ⟨r29, M28, e30, H⟩ := x_bd_of H
  refine x_callV 57 180 9 [] [] dX9_room_57 (ct_X9_item l e30) lk_1241 lk_1243 lk_45 (by decide) h25 lk_94 lk_1244 ⟨cn_X9_item, (by decide), by decide⟩ rfl (Nat.le_of_ble_eq_true rfl) (Nat.le_of_ble_eq_true rfl) (Nat.le_of_ble_eq_true rfl) (x_ri ?_)
  exact x_wk (le_s (le_n (le_s (le_s (le_s le_0))))) (t_X9_room_c57 l H)

def f_X9_room_c2 (v0 : Nat) (v1 : Int32) (s0 : Int32) (M : XM) : Option (Int32 × XM) :=
  if s0 = 0 then (if x_tag M v0 = 9 + 10 then (x_bv (f_X9_all v0 (x_r M v0 29) (0 : Int32) M) (f_X9_room_c22 v0 v1)) else none) else (if x_tag M v0 = 9 + 10 then (x_bd (f_X9_no v0 s0 M) (fun r61 M60 => some (r61, M60))) else none)
set_option maxRecDepth 20000 in
set_option maxHeartbeats 4000000 in
theorem t_X9_room_c2 (l : Launch) {v0 : Nat} {v1 : Int32} {s0 : Int32} {M : XM} {q : Int32 × XM} (H : f_X9_room_c2 v0 v1 s0 M = some q) : AW l m_X9_room 4 0 0 (x_Ri q) 0 0 5 [some (.ref v0), some (.int v1), none, none, none] [(.int s0)] M := by
  unfold f_X9_room_c2 at H
  refine x_istore_n 5 2 [some (.ref v0), some (.int v1), some (.int s0), none, none] dX9_room_5 rfl rfl (Nat.le_of_ble_eq_true rfl) rfl ?_
  refine x_iload_n 6 2 dX9_room_6 rfl rfl ?_
  refine x_if_eq 7 16 dX9_room_7 (by decide) (fun c5 => ?_) (fun c5 => ?_)
  · replace H := x_ifp c5 H
    refine x_aload_n 16 0 dX9_room_16 rfl rfl ?_
    refine x_aload_n 17 0 dX9_room_17 rfl rfl ?_
    obtain ⟨h6, H⟩ := x_ckp H
    refine x_getf 18 75 9 29 (.ref (x_r M v0 29)) dX9_room_18 lk_1059 (by decide) (by decide) rfl (fun _ => rfl) h6 ?_
    refine x_iconst 21 (0 : Int32) dX9_room_21 (by decide) ?_
    obtain ⟨M7, e9, H⟩ := x_bv_of H
    refine x_callV 22 176 9 [(.ref (x_r M v0 29)), (.int (0 : Int32))] [] dX9_room_22 (ct_X9_all l e9) lk_1233 lk_1235 lk_43 (by decide) h6 lk_94 lk_1236 ⟨cn_X9_all, (by decide), by decide⟩ rfl (Nat.le_of_ble_eq_true rfl) (Nat.le_of_ble_eq_true rfl) (Nat.le_of_ble_eq_true rfl) (x_rv ?_)
    exact x_wk (le_s (le_s (le_n (le_s (le_s le_0))))) (t_X9_room_c22 l H)
  · replace H := x_ifn c5 H
    refine x_aload_n 10 0 dX9_room_10 rfl rfl ?_
    refine x_iload_n 11 2 dX9_room_11 rfl rfl ?_
    obtain ⟨h59, H⟩ := x_ckp H
    obtain ⟨r61, M60, e62, H⟩ := x_bd_of H
    refine x_callV 12 100 9 [(.int s0)] [] dX9_room_12 (ct_X9_no l e62) lk_1165 lk_1167 lk_37 (by decide) h59 lk_94 lk_1168 ⟨cn_X9_no, (by decide), by decide⟩ rfl (Nat.le_of_ble_eq_true rfl) (Nat.le_of_ble_eq_true rfl) (Nat.le_of_ble_eq_true rfl) (x_ri ?_)
    cases H
    exact x_iret 15 dX9_room_15 .int rfl rfl (Nat.le_of_ble_eq_true rfl) (Nat.le_of_ble_eq_true rfl) ⟨rfl, rfl⟩

def f_X9_room (v0 : Nat) (v1 : Int32) (M : XM) : Option (Int32 × XM) :=
  if x_tag M v0 = 9 + 10 then (x_bd (f_X9_wanted v0 v1 M) (f_X9_room_c2 v0 v1)) else none
set_option maxRecDepth 20000 in
set_option maxHeartbeats 4000000 in
theorem t_X9_room (l : Launch) {v0 : Nat} {v1 : Int32} {M : XM} {q : Int32 × XM} (H : f_X9_room v0 v1 M = some q) : AW l m_X9_room 4 0 0 (x_Ri q) 0 0 0 [some (.ref v0), some (.int v1), none, none, none] [] M := by
  unfold f_X9_room at H
  refine x_aload_n 0 0 dX9_room_0 rfl rfl ?_
  refine x_iload_n 1 1 dX9_room_1 rfl rfl ?_
  obtain ⟨h1, H⟩ := x_ckp H
  obtain ⟨r3, M2, e4, H⟩ := x_bd_of H
  refine x_callV 2 107 9 [(.int v1)] [] dX9_room_2 (ct_X9_wanted l e4) lk_1229 lk_1231 lk_42 (by decide) h1 lk_94 lk_1232 ⟨cn_X9_wanted, (by decide), by decide⟩ rfl (Nat.le_of_ble_eq_true rfl) (Nat.le_of_ble_eq_true rfl) (Nat.le_of_ble_eq_true rfl) (x_ri ?_)
  exact t_X9_room_c2 l H

theorem ct_X9_room (l : Launch) {v0 : Nat} {v1 : Int32} {M : XM} {q : Int32 × XM} (H : f_X9_room v0 v1 M = some q) : Ct l m_X9_room 4 0 0 [(.ref v0), (.int v1)] M (x_Ri q) := x_met l m_X9_room 4 0 0 [(.ref v0), (.int v1)] M (x_Ri q) _ rfl rfl (Nat.le_of_ble_eq_true rfl) (t_X9_room l H)
abbrev m_X9_fault : XU := (yX9_fault, cX9_fault, 1, (some .int))
theorem cn_X9_fault : m_X9_fault.1.cls ≠ "java/lang/invoke/MethodHandle" ∧ m_X9_fault.1.cls ≠ "java/lang/invoke/VarHandle" ∧ (parseMethodDescriptor m_X9_fault.1.desc).map (fun q => q.parameters.length) = some 0 := by decide +kernel
def f_X9_fault (v0 : Nat) (M : XM) : Option (Int32 × XM) :=
  if x_tag M v0 = 9 + 10 then (some ((x_i M v0 8), M)) else none
set_option maxRecDepth 20000 in
set_option maxHeartbeats 4000000 in
theorem t_X9_fault (l : Launch) {v0 : Nat} {M : XM} {q : Int32 × XM} (H : f_X9_fault v0 M = some q) : AW l m_X9_fault 1 0 0 (x_Ri q) 0 0 0 [some (.ref v0)] [] M := by
  unfold f_X9_fault at H
  refine x_aload_n 0 0 dX9_fault_0 rfl rfl ?_
  obtain ⟨h1, H⟩ := x_ckp H
  refine x_getf 1 25 9 8 (.int (x_i M v0 8)) dX9_fault_1 lk_1038 (by decide) (by decide) rfl (fun _ => rfl) h1 ?_
  cases H
  exact x_iret 4 dX9_fault_4 .int rfl rfl (Nat.le_of_ble_eq_true rfl) (Nat.le_of_ble_eq_true rfl) ⟨rfl, rfl⟩

theorem ct_X9_fault (l : Launch) {v0 : Nat} {M : XM} {q : Int32 × XM} (H : f_X9_fault v0 M = some q) : Ct l m_X9_fault 1 0 0 [(.ref v0)] M (x_Ri q) := x_met l m_X9_fault 1 0 0 [(.ref v0)] M (x_Ri q) _ rfl rfl (Nat.le_of_ble_eq_true rfl) (t_X9_fault l H)
abbrev m_X9_back : XU := (yX9_back, cX9_back, 2, (some .int))
theorem cn_X9_back : m_X9_back.1.cls ≠ "java/lang/invoke/MethodHandle" ∧ m_X9_back.1.cls ≠ "java/lang/invoke/VarHandle" ∧ (parseMethodDescriptor m_X9_back.1.desc).map (fun q => q.parameters.length) = some 1 := by decide +kernel
def f_X9_back_c2 (v0 : Nat) (v1 : Int32) (s0 : Int32) (M : XM) : Option (Int32 × XM) :=
  if s0 = 0 then (if x_tag M v0 = 9 + 10 then (x_bd (f_X9_no v0 (-1 : Int32) M) (fun r8 M7 => some (r8, M7))) else none) else (if x_tag M v0 = 9 + 10 then (if x_at M (x_r M v0 12) 1 v1 = true then (if (x_i M (x_r M v0 12) v1.toNatClampNeg) = (x_i M v0 1) then (x_bd (f_X9_no v0 (-6 : Int32) M) (fun r14 M13 => some (r14, M13))) else (if x_at M (x_r M v0 14) 1 v1 = true then (x_bd (f_X9_left v0 v1 (x_i M (x_r M v0 12) v1.toNatClampNeg) ((x_i M (x_r M v0 14) v1.toNatClampNeg) + (1 : Int32)) M) (fun r18 M17 => some (r18, M17))) else none)) else none) else none)
set_option maxRecDepth 20000 in
set_option maxHeartbeats 4000000 in
theorem t_X9_back_c2 (l : Launch) {v0 : Nat} {v1 : Int32} {s0 : Int32} {M : XM} {q : Int32 × XM} (H : f_X9_back_c2 v0 v1 s0 M = some q) : AW l m_X9_back 2 0 0 (x_Ri q) 0 0 5 [some (.ref v0), some (.int v1)] [(.int s0)] M := by
  unfold f_X9_back_c2 at H
  refine x_if_ne 5 14 dX9_back_5 (by decide) (fun c5 => ?_) (fun c5 => ?_)
  · replace H := x_ifn c5 H
    refine x_aload_n 14 0 dX9_back_14 rfl rfl ?_
    obtain ⟨h10, H⟩ := x_ckp H
    refine x_getf 15 38 9 12 (.ref (x_r M v0 12)) dX9_back_15 lk_1042 (by decide) (by decide) rfl (fun _ => rfl) h10 ?_
    refine x_iload_n 18 1 dX9_back_18 rfl rfl ?_
    obtain ⟨h11, H⟩ := x_ckp H
    refine x_iald 19 dX9_back_19 h11 ?_
    refine x_aload_n 20 0 dX9_back_20 rfl rfl ?_
    refine x_getf 21 7 9 1 (.int (x_i M v0 1)) dX9_back_21 lk_1031 (by decide) (by decide) rfl (fun _ => rfl) h10 ?_
    refine x_icmp_ne 24 36 dX9_back_24 (by decide) (fun c12 => ?_) (fun c12 => ?_)
    · replace H := x_ifn c12 H
      refine x_aload_n 36 0 dX9_back_36 rfl rfl ?_
      refine x_iload_n 37 1 dX9_back_37 rfl rfl ?_
      refine x_aload_n 38 0 dX9_back_38 rfl rfl ?_
      refine x_getf 39 38 9 12 (.ref (x_r M v0 12)) dX9_back_39 lk_1042 (by decide) (by decide) rfl (fun _ => rfl) h10 ?_
      refine x_iload_n 42 1 dX9_back_42 rfl rfl ?_
      refine x_iald 43 dX9_back_43 h11 ?_
      refine x_aload_n 44 0 dX9_back_44 rfl rfl ?_
      refine x_getf 45 44 9 14 (.ref (x_r M v0 14)) dX9_back_45 lk_1044 (by decide) (by decide) rfl (fun _ => rfl) h10 ?_
      refine x_iload_n 48 1 dX9_back_48 rfl rfl ?_
      obtain ⟨h16, H⟩ := x_ckp H
      refine x_iald 49 dX9_back_49 h16 ?_
      refine x_iconst 50 (1 : Int32) dX9_back_50 (by decide) ?_
      refine x_iadd 51 dX9_back_51 ?_
      obtain ⟨r18, M17, e19, H⟩ := x_bd_of H
      refine x_callV 52 183 9 [(.int v1), (.int (x_i M (x_r M v0 12) v1.toNatClampNeg)), (.int ((x_i M (x_r M v0 14) v1.toNatClampNeg) + (1 : Int32)))] [] dX9_back_52 (ct_X9_left l e19) lk_1273 lk_1275 lk_53 (by decide) h10 lk_94 lk_1276 ⟨cn_X9_left, (by decide), by decide⟩ rfl (Nat.le_of_ble_eq_true rfl) (Nat.le_of_ble_eq_true rfl) (Nat.le_of_ble_eq_true rfl) (x_ri ?_)
      cases H
      exact x_iret 55 dX9_back_55 .int rfl rfl (Nat.le_of_ble_eq_true rfl) (Nat.le_of_ble_eq_true rfl) ⟨rfl, rfl⟩
    · replace H := x_ifp c12 H
      refine x_aload_n 27 0 dX9_back_27 rfl rfl ?_
      refine x_bipush 28 (-6 : Int32) dX9_back_28 (by decide) ?_
      obtain ⟨r14, M13, e15, H⟩ := x_bd_of H
      refine x_callV 30 100 9 [(.int (-6 : Int32))] [] dX9_back_30 (ct_X9_no l e15) lk_1165 lk_1167 lk_37 (by decide) h10 lk_94 lk_1168 ⟨cn_X9_no, (by decide), by decide⟩ rfl (Nat.le_of_ble_eq_true rfl) (Nat.le_of_ble_eq_true rfl) (Nat.le_of_ble_eq_true rfl) (x_ri ?_)
      refine x_goto 33 55 dX9_back_33 (by decide) ?_
      cases H
      exact x_iret 55 dX9_back_55 .int rfl rfl (Nat.le_of_ble_eq_true rfl) (Nat.le_of_ble_eq_true rfl) ⟨rfl, rfl⟩
  · replace H := x_ifp c5 H
    refine x_aload_n 8 0 dX9_back_8 rfl rfl ?_
    refine x_iconst 9 (-1 : Int32) dX9_back_9 (by decide) ?_
    obtain ⟨h6, H⟩ := x_ckp H
    obtain ⟨r8, M7, e9, H⟩ := x_bd_of H
    refine x_callV 10 100 9 [(.int (-1 : Int32))] [] dX9_back_10 (ct_X9_no l e9) lk_1165 lk_1167 lk_37 (by decide) h6 lk_94 lk_1168 ⟨cn_X9_no, (by decide), by decide⟩ rfl (Nat.le_of_ble_eq_true rfl) (Nat.le_of_ble_eq_true rfl) (Nat.le_of_ble_eq_true rfl) (x_ri ?_)
    cases H
    exact x_iret 13 dX9_back_13 .int rfl rfl (Nat.le_of_ble_eq_true rfl) (Nat.le_of_ble_eq_true rfl) ⟨rfl, rfl⟩

def f_X9_back (v0 : Nat) (v1 : Int32) (M : XM) : Option (Int32 × XM) :=
  if x_tag M v0 = 9 + 10 then (x_bd (f_X9_isCounter v0 v1 M) (f_X9_back_c2 v0 v1)) else none
set_option maxRecDepth 20000 in
set_option maxHeartbeats 4000000 in
theorem t_X9_back (l : Launch) {v0 : Nat} {v1 : Int32} {M : XM} {q : Int32 × XM} (H : f_X9_back v0 v1 M = some q) : AW l m_X9_back 2 0 0 (x_Ri q) 0 0 0 [some (.ref v0), some (.int v1)] [] M := by
  unfold f_X9_back at H
  refine x_aload_n 0 0 dX9_back_0 rfl rfl ?_
  refine x_iload_n 1 1 dX9_back_1 rfl rfl ?_
  obtain ⟨h1, H⟩ := x_ckp H
  obtain ⟨r3, M2, e4, H⟩ := x_bd_of H
  refine x_callV 2 104 9 [(.int v1)] [] dX9_back_2 (ct_X9_isCounter l e4) lk_1185 lk_1187 lk_38 (by decide) h1 lk_94 lk_1188 ⟨cn_X9_isCounter, (by decide), by decide⟩ rfl (Nat.le_of_ble_eq_true rfl) (Nat.le_of_ble_eq_true rfl) (Nat.le_of_ble_eq_true rfl) (x_ri ?_)
  exact t_X9_back_c2 l H

theorem ct_X9_back (l : Launch) {v0 : Nat} {v1 : Int32} {M : XM} {q : Int32 × XM} (H : f_X9_back v0 v1 M = some q) : Ct l m_X9_back 2 0 0 [(.ref v0), (.int v1)] M (x_Ri q) := x_met l m_X9_back 2 0 0 [(.ref v0), (.int v1)] M (x_Ri q) _ rfl rfl (Nat.le_of_ble_eq_true rfl) (t_X9_back l H)
theorem lk_1061 : Cond.fieldLink RX9 187 RX9 "ranAt" "I" ∈ x_TB := x_tb (k := 1061) (by decide +kernel) rfl
theorem lk_1062 : Cond.fieldLink RX9 190 RX9 "ranOff" "I" ∈ x_TB := x_tb (k := 1062) (by decide +kernel) rfl
theorem lk_1063 : Cond.fieldLink RX9 193 RX9 "ranHeard" "I" ∈ x_TB := x_tb (k := 1063) (by decide +kernel) rfl
theorem lk_1064 : Cond.fieldLink RX9 196 RX9 "ranTold" "I" ∈ x_TB := x_tb (k := 1064) (by decide +kernel) rfl
abbrev m_X9_begins : XU := (yX9_begins, cX9_begins, 2, none)
theorem cn_X9_begins : m_X9_begins.1.cls ≠ "java/lang/invoke/MethodHandle" ∧ m_X9_begins.1.cls ≠ "java/lang/invoke/VarHandle" ∧ (parseMethodDescriptor m_X9_begins.1.desc).map (fun q => q.parameters.length) = some 1 := by decide +kernel
def f_X9_begins (v0 : Nat) (v1 : Int32) (M : XM) : Option XM :=
  if x_tag M v0 = 9 + 10 then (if x_at M (x_r M v0 12) 1 v1 = true then (x_lt (x_wi M v0 31 (x_i M (x_r M v0 12) v1.toNatClampNeg)) (fun M3 => if x_at M3 (x_r M3 v0 13) 1 v1 = true then (x_lt (x_wi M3 v0 32 (x_i M3 (x_r M3 v0 13) v1.toNatClampNeg)) (fun M9 => if x_at M9 (x_r M9 v0 14) 1 v1 = true then (x_lt (x_wi M9 v0 33 (x_i M9 (x_r M9 v0 14) v1.toNatClampNeg)) (fun M17 => x_lt (x_wi M17 v0 34 (0 : Int32)) (fun M26 => some M26))) else none)) else none)) else none) else none
set_option maxRecDepth 20000 in
set_option maxHeartbeats 4000000 in
theorem t_X9_begins (l : Launch) {v0 : Nat} {v1 : Int32} {M : XM} {q : XM} (H : f_X9_begins v0 v1 M = some q) : AW l m_X9_begins 1 0 0 (x_Rv q) 0 0 0 [some (.ref v0), some (.int v1)] [] M := by
  unfold f_X9_begins at H
  refine x_aload_n 0 0 dX9_begins_0 rfl rfl ?_
  refine x_aload_n 1 0 dX9_begins_1 rfl rfl ?_
  obtain ⟨h1, H⟩ := x_ckp H
  refine x_getf 2 38 9 12 (.ref (x_r M v0 12)) dX9_begins_2 lk_1042 (by decide) (by decide) rfl (fun _ => rfl) h1 ?_
  refine x_iload_n 5 1 dX9_begins_5 rfl rfl ?_
  obtain ⟨h2, H⟩ := x_ckp H
  refine x_iald 6 dX9_begins_6 h2 ?_
  obtain ⟨M3, w4, H⟩ := x_lt_of H
  have h5 : x_tag M3 v0 = 9 + 10 := by rw [w4]; exact h1
  have h6 : x_at M3 (x_r M v0 12) 1 v1 = true := by rw [w4]; exact h2
  have h7 : x_tag M3 (x_r M v0 12) = 1 := by rw [w4]; exact (x_at_1 h2)
  refine x_putI' 7 187 9 31 dX9_begins_7 lk_1061 (by decide) (by decide) rfl (Or.inl rfl) (Or.inl rfl) h1 w4 ?_
  refine x_aload_n 10 0 dX9_begins_10 rfl rfl ?_
  refine x_aload_n 11 0 dX9_begins_11 rfl rfl ?_
  refine x_getf 12 41 9 13 (.ref (x_r M3 v0 13)) dX9_begins_12 lk_1043 (by decide) (by decide) rfl (fun _ => rfl) h5 ?_
  refine x_iload_n 15 1 dX9_begins_15 rfl rfl ?_
  obtain ⟨h8, H⟩ := x_ckp H
  refine x_iald 16 dX9_begins_16 h8 ?_
  obtain ⟨M9, w10, H⟩ := x_lt_of H
  have h11 : x_tag M9 v0 = 9 + 10 := by rw [w10]; exact h5
  have h12 : x_at M9 (x_r M v0 12) 1 v1 = true := by rw [w10]; exact h6
  have h13 : x_tag M9 (x_r M v0 12) = 1 := by rw [w10]; exact h7
  have h14 : x_at M9 (x_r M3 v0 13) 1 v1 = true := by rw [w10]; exact h8
  have h15 : x_tag M9 (x_r M3 v0 13) = 1 := by rw [w10]; exact (x_at_1 h8)
  refine x_putI' 17 190 9 32 dX9_begins_17 lk_1062 (by decide) (by decide) rfl (Or.inl rfl) (Or.inl rfl) h5 w10 ?_
  refine x_aload_n 20 0 dX9_begins_20 rfl rfl ?_
  refine x_aload_n 21 0 dX9_begins_21 rfl rfl ?_
  refine x_getf 22 44 9 14 (.ref (x_r M9 v0 14)) dX9_begins_22 lk_1044 (by decide) (by decide) rfl (fun _ => rfl) h11 ?_
  refine x_iload_n 25 1 dX9_begins_25 rfl rfl ?_
  obtain ⟨h16, H⟩ := x_ckp H
  refine x_iald 26 dX9_begins_26 h16 ?_
  obtain ⟨M17, w18, H⟩ := x_lt_of H
  have h19 : x_tag M17 v0 = 9 + 10 := by rw [w18]; exact h11
  have h20 : x_at M17 (x_r M v0 12) 1 v1 = true := by rw [w18]; exact h12
  have h21 : x_tag M17 (x_r M v0 12) = 1 := by rw [w18]; exact h13
  have h22 : x_at M17 (x_r M3 v0 13) 1 v1 = true := by rw [w18]; exact h14
  have h23 : x_tag M17 (x_r M3 v0 13) = 1 := by rw [w18]; exact h15
  have h24 : x_at M17 (x_r M9 v0 14) 1 v1 = true := by rw [w18]; exact h16
  have h25 : x_tag M17 (x_r M9 v0 14) = 1 := by rw [w18]; exact (x_at_1 h16)
  refine x_putI' 27 193 9 33 dX9_begins_27 lk_1063 (by decide) (by decide) rfl (Or.inl rfl) (Or.inl rfl) h11 w18 ?_
  refine x_aload_n 30 0 dX9_begins_30 rfl rfl ?_
  refine x_iconst 31 (0 : Int32) dX9_begins_31 (by decide) ?_
  obtain ⟨M26, w27, H⟩ := x_lt_of H
  have h28 : x_tag M26 v0 = 9 + 10 := by rw [w27]; exact h19
  have h29 : x_at M26 (x_r M v0 12) 1 v1 = true := by rw [w27]; exact h20
  have h30 : x_tag M26 (x_r M v0 12) = 1 := by rw [w27]; exact h21
  have h31 : x_at M26 (x_r M3 v0 13) 1 v1 = true := by rw [w27]; exact h22
  have h32 : x_tag M26 (x_r M3 v0 13) = 1 := by rw [w27]; exact h23
  have h33 : x_at M26 (x_r M9 v0 14) 1 v1 = true := by rw [w27]; exact h24
  have h34 : x_tag M26 (x_r M9 v0 14) = 1 := by rw [w27]; exact h25
  refine x_putI' 32 196 9 34 dX9_begins_32 lk_1064 (by decide) (by decide) rfl (Or.inl rfl) (Or.inl rfl) h19 w27 ?_
  cases H
  exact x_vret 35 dX9_begins_35 rfl (Nat.le_of_ble_eq_true rfl) (Nat.le_of_ble_eq_true rfl) ⟨rfl, rfl⟩

theorem ct_X9_begins (l : Launch) {v0 : Nat} {v1 : Int32} {M : XM} {q : XM} (H : f_X9_begins v0 v1 M = some q) : Ct l m_X9_begins 1 0 0 [(.ref v0), (.int v1)] M (x_Rv q) := x_met l m_X9_begins 1 0 0 [(.ref v0), (.int v1)] M (x_Rv q) _ rfl rfl (Nat.le_of_ble_eq_true rfl) (t_X9_begins l H)
abbrev m_X9_goes : XU := (yX9_goes, cX9_goes, 6, none)
theorem cn_X9_goes : m_X9_goes.1.cls ≠ "java/lang/invoke/MethodHandle" ∧ m_X9_goes.1.cls ≠ "java/lang/invoke/VarHandle" ∧ (parseMethodDescriptor m_X9_goes.1.desc).map (fun q => q.parameters.length) = some 4 := by decide +kernel
def f_X9_goes_126 (v0 : Nat) (v1 : Int32) (M : XM) : Option XM :=
  if x_tag M v0 = 9 + 10 then (if x_at M (x_r M v0 10) 1 v1 = true then (if (x_i M (x_r M v0 10) v1.toNatClampNeg) = (3 : Int32) then (x_lt (x_wi M v0 32 ((x_i M v0 32) + (1 : Int32))) (fun M35 => some M35)) else (some M)) else none) else none
set_option maxRecDepth 20000 in
set_option maxHeartbeats 4000000 in
theorem t_X9_goes_126 (l : Launch) {v0 : Nat} {v1 : Int32} {M : XM} {q : XM} (H : f_X9_goes_126 v0 v1 M = some q) : AW l m_X9_goes 2 0 0 (x_Rv q) 0 0 126 [some (.ref v0), some (.int v1), none, none, none, none] [] M := by
  unfold f_X9_goes_126 at H
  refine x_aload_n 126 0 dX9_goes_126 rfl rfl ?_
  obtain ⟨h32, H⟩ := x_ckp H
  refine x_getf 127 32 9 10 (.ref (x_r M v0 10)) dX9_goes_127 lk_1040 (by decide) (by decide) rfl (fun _ => rfl) h32 ?_
  refine x_iload_n 130 1 dX9_goes_130 rfl rfl ?_
  obtain ⟨h33, H⟩ := x_ckp H
  refine x_iald 131 dX9_goes_131 h33 ?_
  refine x_iconst 132 (3 : Int32) dX9_goes_132 (by decide) ?_
  refine x_icmp_ne 133 146 dX9_goes_133 (by decide) (fun c34 => ?_) (fun c34 => ?_)
  · replace H := x_ifn c34 H
    cases H
    exact x_vret 146 dX9_goes_146 rfl (Nat.le_of_ble_eq_true rfl) (Nat.le_of_ble_eq_true rfl) ⟨rfl, rfl⟩
  · replace H := x_ifp c34 H
    refine x_aload_n 136 0 dX9_goes_136 rfl rfl ?_
    refine x_dup 137 dX9_goes_137 rfl ?_
    refine x_getf 138 190 9 32 (.int (x_i M v0 32)) dX9_goes_138 lk_1062 (by decide) (by decide) rfl (fun _ => rfl) h32 ?_
    refine x_iconst 141 (1 : Int32) dX9_goes_141 (by decide) ?_
    refine x_iadd 142 dX9_goes_142 ?_
    obtain ⟨M35, w36, H⟩ := x_lt_of H
    have h37 : x_tag M35 v0 = 9 + 10 := by rw [w36]; exact h32
    have h38 : x_at M35 (x_r M v0 10) 1 v1 = true := by rw [w36]; exact h33
    have h39 : x_tag M35 (x_r M v0 10) = 1 := by rw [w36]; exact (x_at_1 h33)
    refine x_putI' 143 190 9 32 dX9_goes_143 lk_1062 (by decide) (by decide) rfl (Or.inl rfl) (Or.inl rfl) h32 w36 ?_
    cases H
    exact x_vret 146 dX9_goes_146 rfl (Nat.le_of_ble_eq_true rfl) (Nat.le_of_ble_eq_true rfl) ⟨rfl, rfl⟩

def f_X9_goes_c93 (v0 : Nat) (v1 : Int32) (s1 : Nat) (s0 : Int32) (M : XM) : Option XM :=
  if x_tag M s1 = 9 + 10 then (x_lt (x_wi M s1 31 s0) (fun M17 => if x_tag M17 v0 = 9 + 10 then (if x_at M17 (x_r M17 v0 10) 1 v1 = true then (if (x_i M17 (x_r M17 v0 10) v1.toNatClampNeg) = (2 : Int32) then (if x_at M17 (x_r M17 v0 11) 1 v1 = true then (x_lt (x_wi M17 v0 32 ((x_i M17 v0 32) + ((x_i M17 (x_r M17 v0 11) v1.toNatClampNeg) + (1 : Int32)))) (fun M24 => f_X9_goes_126 v0 v1 M24)) else none) else (f_X9_goes_126 v0 v1 M17)) else none) else none)) else none
set_option maxRecDepth 20000 in
set_option maxHeartbeats 4000000 in
theorem t_X9_goes_c93 (l : Launch) {v0 : Nat} {v1 : Int32} {s1 : Nat} {s0 : Int32} {M : XM} {q : XM} (H : f_X9_goes_c93 v0 v1 s1 s0 M = some q) : AW l m_X9_goes 2 0 0 (x_Rv q) 0 0 96 [some (.ref v0), some (.int v1), none, none, none, none] [(.int s0), (.ref s1)] M := by
  unfold f_X9_goes_c93 at H
  obtain ⟨h16, H⟩ := x_ckp H
  obtain ⟨M17, w18, H⟩ := x_lt_of H
  have h19 : x_tag M17 s1 = 9 + 10 := by rw [w18]; exact h16
  refine x_putI' 96 187 9 31 dX9_goes_96 lk_1061 (by decide) (by decide) rfl (Or.inl rfl) (Or.inl rfl) h16 w18 ?_
  refine x_aload_n 99 0 dX9_goes_99 rfl rfl ?_
  obtain ⟨h20, H⟩ := x_ckp H
  refine x_getf 100 32 9 10 (.ref (x_r M17 v0 10)) dX9_goes_100 lk_1040 (by decide) (by decide) rfl (fun _ => rfl) h20 ?_
  refine x_iload_n 103 1 dX9_goes_103 rfl rfl ?_
  obtain ⟨h21, H⟩ := x_ckp H
  refine x_iald 104 dX9_goes_104 h21 ?_
  refine x_iconst 105 (2 : Int32) dX9_goes_105 (by decide) ?_
  refine x_icmp_ne 106 126 dX9_goes_106 (by decide) (fun c22 => ?_) (fun c22 => ?_)
  · replace H := x_ifn c22 H
    exact t_X9_goes_126 l H
  · replace H := x_ifp c22 H
    refine x_aload_n 109 0 dX9_goes_109 rfl rfl ?_
    refine x_dup 110 dX9_goes_110 rfl ?_
    refine x_getf 111 190 9 32 (.int (x_i M17 v0 32)) dX9_goes_111 lk_1062 (by decide) (by decide) rfl (fun _ => rfl) h20 ?_
    refine x_aload_n 114 0 dX9_goes_114 rfl rfl ?_
    refine x_getf 115 35 9 11 (.ref (x_r M17 v0 11)) dX9_goes_115 lk_1041 (by decide) (by decide) rfl (fun _ => rfl) h20 ?_
    refine x_iload_n 118 1 dX9_goes_118 rfl rfl ?_
    obtain ⟨h23, H⟩ := x_ckp H
    refine x_iald 119 dX9_goes_119 h23 ?_
    refine x_iconst 120 (1 : Int32) dX9_goes_120 (by decide) ?_
    refine x_iadd 121 dX9_goes_121 ?_
    refine x_iadd 122 dX9_goes_122 ?_
    obtain ⟨M24, w25, H⟩ := x_lt_of H
    have h26 : x_tag M24 s1 = 9 + 10 := by rw [w25]; exact h19
    have h27 : x_tag M24 v0 = 9 + 10 := by rw [w25]; exact h20
    have h28 : x_at M24 (x_r M17 v0 10) 1 v1 = true := by rw [w25]; exact h21
    have h29 : x_tag M24 (x_r M17 v0 10) = 1 := by rw [w25]; exact (x_at_1 h21)
    have h30 : x_at M24 (x_r M17 v0 11) 1 v1 = true := by rw [w25]; exact h23
    have h31 : x_tag M24 (x_r M17 v0 11) = 1 := by rw [w25]; exact (x_at_1 h23)
    refine x_putI' 123 190 9 32 dX9_goes_123 lk_1062 (by decide) (by decide) rfl (Or.inl rfl) (Or.inl rfl) h20 w25 ?_
    exact t_X9_goes_126 l H

def f_X9_goes_44 (v0 : Nat) (v1 : Int32) (v5 : Int32) (M : XM) : Option XM :=
  if x_tag M v0 = 9 + 10 then (if (x_i M v0 31) = (x_i M v0 1) then (some M) else (if v5 = 0 then (x_lt (x_wi M v0 31 ((x_i M v0 31) + (1 : Int32))) (fun M7 => some M7)) else (x_lt (x_wi M v0 33 ((x_i M v0 33) + (1 : Int32))) (fun M10 => x_bd (f_X9_left v0 v1 (x_i M10 v0 31) (x_i M10 v0 33) M10) (f_X9_goes_c93 v0 v1 v0))))) else none
set_option maxRecDepth 20000 in
set_option maxHeartbeats 4000000 in
theorem t_X9_goes_44 (l : Launch) {v0 : Nat} {v1 : Int32} {v5 : Int32} {M : XM} {q : XM} (H : f_X9_goes_44 v0 v1 v5 M = some q) : AW l m_X9_goes 2 0 0 (x_Rv q) 0 0 44 [some (.ref v0), some (.int v1), none, none, none, some (.int v5)] [] M := by
  unfold f_X9_goes_44 at H
  refine x_aload_n 44 0 dX9_goes_44 rfl rfl ?_
  obtain ⟨h4, H⟩ := x_ckp H
  refine x_getf 45 187 9 31 (.int (x_i M v0 31)) dX9_goes_45 lk_1061 (by decide) (by decide) rfl (fun _ => rfl) h4 ?_
  refine x_aload_n 48 0 dX9_goes_48 rfl rfl ?_
  refine x_getf 49 7 9 1 (.int (x_i M v0 1)) dX9_goes_49 lk_1031 (by decide) (by decide) rfl (fun _ => rfl) h4 ?_
  refine x_icmp_ne 52 56 dX9_goes_52 (by decide) (fun c5 => ?_) (fun c5 => ?_)
  · replace H := x_ifn c5 H
    refine x_iload 56 5 dX9_goes_56 rfl ?_
    refine x_if_ne 58 72 dX9_goes_58 (by decide) (fun c6 => ?_) (fun c6 => ?_)
    · replace H := x_ifn c6 H
      refine x_aload_n 72 0 dX9_goes_72 rfl rfl ?_
      refine x_dup 73 dX9_goes_73 rfl ?_
      refine x_getf 74 193 9 33 (.int (x_i M v0 33)) dX9_goes_74 lk_1063 (by decide) (by decide) rfl (fun _ => rfl) h4 ?_
      refine x_iconst 77 (1 : Int32) dX9_goes_77 (by decide) ?_
      refine x_iadd 78 dX9_goes_78 ?_
      obtain ⟨M10, w11, H⟩ := x_lt_of H
      have h12 : x_tag M10 v0 = 9 + 10 := by rw [w11]; exact h4
      refine x_putI' 79 193 9 33 dX9_goes_79 lk_1063 (by decide) (by decide) rfl (Or.inl rfl) (Or.inl rfl) h4 w11 ?_
      refine x_aload_n 82 0 dX9_goes_82 rfl rfl ?_
      refine x_aload_n 83 0 dX9_goes_83 rfl rfl ?_
      refine x_iload_n 84 1 dX9_goes_84 rfl rfl ?_
      refine x_aload_n 85 0 dX9_goes_85 rfl rfl ?_
      refine x_getf 86 187 9 31 (.int (x_i M10 v0 31)) dX9_goes_86 lk_1061 (by decide) (by decide) rfl (fun _ => rfl) h12 ?_
      refine x_aload_n 89 0 dX9_goes_89 rfl rfl ?_
      refine x_getf 90 193 9 33 (.int (x_i M10 v0 33)) dX9_goes_90 lk_1063 (by decide) (by decide) rfl (fun _ => rfl) h12 ?_
      obtain ⟨r14, M13, e15, H⟩ := x_bd_of H
      refine x_callV 93 183 9 [(.int v1), (.int (x_i M10 v0 31)), (.int (x_i M10 v0 33))] [(.ref v0)] dX9_goes_93 (ct_X9_left l e15) lk_1273 lk_1275 lk_53 (by decide) h12 lk_94 lk_1276 ⟨cn_X9_left, (by decide), by decide⟩ rfl (Nat.le_of_ble_eq_true rfl) (Nat.le_of_ble_eq_true rfl) (Nat.le_of_ble_eq_true rfl) (x_ri ?_)
      exact x_wk (le_s (le_s (le_s (le_s (le_s (le_n le_0)))))) (t_X9_goes_c93 l H)
    · replace H := x_ifp c6 H
      refine x_aload_n 61 0 dX9_goes_61 rfl rfl ?_
      refine x_dup 62 dX9_goes_62 rfl ?_
      refine x_getf 63 187 9 31 (.int (x_i M v0 31)) dX9_goes_63 lk_1061 (by decide) (by decide) rfl (fun _ => rfl) h4 ?_
      refine x_iconst 66 (1 : Int32) dX9_goes_66 (by decide) ?_
      refine x_iadd 67 dX9_goes_67 ?_
      obtain ⟨M7, w8, H⟩ := x_lt_of H
      have h9 : x_tag M7 v0 = 9 + 10 := by rw [w8]; exact h4
      refine x_putI' 68 187 9 31 dX9_goes_68 lk_1061 (by decide) (by decide) rfl (Or.inl rfl) (Or.inl rfl) h4 w8 ?_
      cases H
      exact x_vret 71 dX9_goes_71 rfl (Nat.le_of_ble_eq_true rfl) (Nat.le_of_ble_eq_true rfl) ⟨rfl, rfl⟩
  · replace H := x_ifp c5 H
    cases H
    exact x_vret 55 dX9_goes_55 rfl (Nat.le_of_ble_eq_true rfl) (Nat.le_of_ble_eq_true rfl) ⟨rfl, rfl⟩

def f_X9_goes_27 (v0 : Nat) (v1 : Int32) (s0 : Int32) (M : XM) : Option XM :=
  if s0 = 0 then (f_X9_goes_44 v0 v1 s0 M) else (if x_tag M v0 = 9 + 10 then (x_lt (x_wi M v0 34 ((x_i M v0 34) + (1 : Int32))) (fun M41 => f_X9_goes_44 v0 v1 s0 M41)) else none)
set_option maxRecDepth 20000 in
set_option maxHeartbeats 4000000 in
theorem t_X9_goes_27 (l : Launch) {v0 : Nat} {v1 : Int32} {s0 : Int32} {M : XM} {q : XM} (H : f_X9_goes_27 v0 v1 s0 M = some q) : AW l m_X9_goes 2 0 0 (x_Rv q) 0 0 27 [some (.ref v0), some (.int v1), none, none, none, none] [(.int s0)] M := by
  unfold f_X9_goes_27 at H
  refine x_istore 27 5 [some (.ref v0), some (.int v1), none, none, none, some (.int s0)] dX9_goes_27 rfl (Nat.le_of_ble_eq_true rfl) rfl ?_
  refine x_iload 29 5 dX9_goes_29 rfl ?_
  refine x_if_eq 31 44 dX9_goes_31 (by decide) (fun c3 => ?_) (fun c3 => ?_)
  · replace H := x_ifp c3 H
    exact t_X9_goes_44 l H
  · replace H := x_ifn c3 H
    refine x_aload_n 34 0 dX9_goes_34 rfl rfl ?_
    refine x_dup 35 dX9_goes_35 rfl ?_
    obtain ⟨h40, H⟩ := x_ckp H
    refine x_getf 36 196 9 34 (.int (x_i M v0 34)) dX9_goes_36 lk_1064 (by decide) (by decide) rfl (fun _ => rfl) h40 ?_
    refine x_iconst 39 (1 : Int32) dX9_goes_39 (by decide) ?_
    refine x_iadd 40 dX9_goes_40 ?_
    obtain ⟨M41, w42, H⟩ := x_lt_of H
    have h43 : x_tag M41 v0 = 9 + 10 := by rw [w42]; exact h40
    refine x_putI' 41 196 9 34 dX9_goes_41 lk_1064 (by decide) (by decide) rfl (Or.inl rfl) (Or.inl rfl) h40 w42 ?_
    exact t_X9_goes_44 l H

def f_X9_goes_26 (v0 : Nat) (v1 : Int32) (M : XM) : Option XM :=
  f_X9_goes_27 v0 v1 (0 : Int32) M
set_option maxRecDepth 20000 in
set_option maxHeartbeats 4000000 in
theorem t_X9_goes_26 (l : Launch) {v0 : Nat} {v1 : Int32} {M : XM} {q : XM} (H : f_X9_goes_26 v0 v1 M = some q) : AW l m_X9_goes 2 0 0 (x_Rv q) 0 0 26 [some (.ref v0), some (.int v1), none, none, none, none] [] M := by
  unfold f_X9_goes_26 at H
  refine x_iconst 26 (0 : Int32) dX9_goes_26 (by decide) ?_
  exact t_X9_goes_27 l H

def f_X9_goes_c15 (v0 : Nat) (v1 : Int32) (v2 : Int32) (s0 : Int32) (M : XM) : Option XM :=
  if s0 = v2 then (f_X9_goes_27 v0 v1 (1 : Int32) M) else (f_X9_goes_26 v0 v1 M)
set_option maxRecDepth 20000 in
set_option maxHeartbeats 4000000 in
theorem t_X9_goes_c15 (l : Launch) {v0 : Nat} {v1 : Int32} {v2 : Int32} {s0 : Int32} {M : XM} {q : XM} (H : f_X9_goes_c15 v0 v1 v2 s0 M = some q) : AW l m_X9_goes 2 0 0 (x_Rv q) 0 0 18 [some (.ref v0), some (.int v1), some (.int v2), none, none, none] [(.int s0)] M := by
  unfold f_X9_goes_c15 at H
  refine x_iload_n 18 2 dX9_goes_18 rfl rfl ?_
  refine x_icmp_ne 19 26 dX9_goes_19 (by decide) (fun c47 => ?_) (fun c47 => ?_)
  · replace H := x_ifn c47 H
    exact x_wk (le_s (le_s (le_n (le_s (le_s (le_s le_0)))))) (t_X9_goes_26 l H)
  · replace H := x_ifp c47 H
    refine x_iconst 22 (1 : Int32) dX9_goes_22 (by decide) ?_
    refine x_goto 23 27 dX9_goes_23 (by decide) ?_
    exact x_wk (le_s (le_s (le_n (le_s (le_s (le_s le_0)))))) (t_X9_goes_27 l H)

def f_X9_goes (v0 : Nat) (v1 : Int32) (v2 : Int32) (v3 : Int32) (v4 : Int32) (M : XM) : Option XM :=
  if x_tag M v0 = 9 + 10 then (if v4 ≤ (x_i M v0 34) then (f_X9_goes_26 v0 v1 M) else (x_bd (f_X9_intAt v0 v3 (x_i M v0 34) M) (f_X9_goes_c15 v0 v1 v2))) else none
set_option maxRecDepth 20000 in
set_option maxHeartbeats 4000000 in
theorem t_X9_goes (l : Launch) {v0 : Nat} {v1 : Int32} {v2 : Int32} {v3 : Int32} {v4 : Int32} {M : XM} {q : XM} (H : f_X9_goes v0 v1 v2 v3 v4 M = some q) : AW l m_X9_goes 2 0 0 (x_Rv q) 0 0 0 [some (.ref v0), some (.int v1), some (.int v2), some (.int v3), some (.int v4), none] [] M := by
  unfold f_X9_goes at H
  refine x_aload_n 0 0 dX9_goes_0 rfl rfl ?_
  obtain ⟨h1, H⟩ := x_ckp H
  refine x_getf 1 196 9 34 (.int (x_i M v0 34)) dX9_goes_1 lk_1064 (by decide) (by decide) rfl (fun _ => rfl) h1 ?_
  refine x_iload 4 4 dX9_goes_4 rfl ?_
  refine x_icmp_ge 6 26 dX9_goes_6 (by decide) (fun c2 => ?_) (fun c2 => ?_)
  · replace H := x_ifp c2 H
    exact x_wk (le_s (le_s (le_n (le_n (le_n (le_s le_0)))))) (t_X9_goes_26 l H)
  · replace H := x_ifn c2 H
    refine x_aload_n 9 0 dX9_goes_9 rfl rfl ?_
    refine x_iload_n 10 3 dX9_goes_10 rfl rfl ?_
    refine x_aload_n 11 0 dX9_goes_11 rfl rfl ?_
    refine x_getf 12 196 9 34 (.int (x_i M v0 34)) dX9_goes_12 lk_1064 (by decide) (by decide) rfl (fun _ => rfl) h1 ?_
    obtain ⟨r45, M44, e46, H⟩ := x_bd_of H
    refine x_callV 15 110 9 [(.int v3), (.int (x_i M v0 34))] [] dX9_goes_15 (ct_X9_intAt l e46) lk_1298 lk_1300 lk_56 (by decide) h1 lk_94 lk_1301 ⟨cn_X9_intAt, (by decide), by decide⟩ rfl (Nat.le_of_ble_eq_true rfl) (Nat.le_of_ble_eq_true rfl) (Nat.le_of_ble_eq_true rfl) (x_ri ?_)
    exact x_wk (le_s (le_s (le_s (le_n (le_n (le_s le_0)))))) (t_X9_goes_c15 l H)

theorem ct_X9_goes (l : Launch) {v0 : Nat} {v1 : Int32} {v2 : Int32} {v3 : Int32} {v4 : Int32} {M : XM} {q : XM} (H : f_X9_goes v0 v1 v2 v3 v4 M = some q) : Ct l m_X9_goes 2 0 0 [(.ref v0), (.int v1), (.int v2), (.int v3), (.int v4)] M (x_Rv q) := x_met l m_X9_goes 2 0 0 [(.ref v0), (.int v1), (.int v2), (.int v3), (.int v4)] M (x_Rv q) _ rfl rfl (Nat.le_of_ble_eq_true rfl) (t_X9_goes l H)
theorem lk_1305 : Cond.code yX9_begins cX9_begins 2 none ∈ x_TB := x_tb (k := 1305) (by decide +kernel) rfl
theorem lk_1302 : Cond.methodLink RX9 199 yX9_begins ∈ x_TB := x_tb (k := 1302) (by decide +kernel) rfl
theorem lk_57 : Cond.selects RX9 yX9_begins yX9_begins ∈ x_TB := x_tb (k := 57) (by decide +kernel) rfl
theorem lk_1304 : Cond.instanceMethod yX9_begins ∈ x_TB := x_tb (k := 1304) (by decide +kernel) rfl
theorem lk_1309 : Cond.code yX9_goes cX9_goes 6 none ∈ x_TB := x_tb (k := 1309) (by decide +kernel) rfl
theorem lk_1306 : Cond.methodLink RX9 202 yX9_goes ∈ x_TB := x_tb (k := 1306) (by decide +kernel) rfl
theorem lk_58 : Cond.selects RX9 yX9_goes yX9_goes ∈ x_TB := x_tb (k := 58) (by decide +kernel) rfl
theorem lk_1308 : Cond.instanceMethod yX9_goes ∈ x_TB := x_tb (k := 1308) (by decide +kernel) rfl
abbrev m_X9_throughBy : XU := (yX9_throughBy, cX9_throughBy, 5, (some .int))
theorem cn_X9_throughBy : m_X9_throughBy.1.cls ≠ "java/lang/invoke/MethodHandle" ∧ m_X9_throughBy.1.cls ≠ "java/lang/invoke/VarHandle" ∧ (parseMethodDescriptor m_X9_throughBy.1.desc).map (fun q => q.parameters.length) = some 3 := by decide +kernel
def f_X9_throughBy_c38 (κ8 : Nat → Int32 → Int32 → Int32 → Int32 → XM → Option (Int32 × XM)) (v0 : Nat) (v1 : Int32) (v2 : Int32) (v3 : Int32) (v4 : Int32) (M : XM) : Option (Int32 × XM) :=
  κ8 v0 v1 v2 v3 (v4 + (1 : Int32)) M
set_option maxRecDepth 20000 in
set_option maxHeartbeats 4000000 in
theorem t_X9_throughBy_c38 (l : Launch) {κ8 : Nat → Int32 → Int32 → Int32 → Int32 → XM → Option (Int32 × XM)} {v0 : Nat} {v1 : Int32} {v2 : Int32} {v3 : Int32} {v4 : Int32} {M : XM} {q : Int32 × XM} (hκ8 : ∀ (v0 : Nat) (v1 : Int32) (v2 : Int32) (v3 : Int32) (v4 : Int32) (M : XM), κ8 v0 v1 v2 v3 v4 M = some q → AW l m_X9_throughBy 3 0 0 (x_Ri q) 0 0 8 [some (.ref v0), some (.int v1), some (.int v2), some (.int v3), some (.int v4)] [] M) (H : f_X9_throughBy_c38 κ8 v0 v1 v2 v3 v4 M = some q) : AW l m_X9_throughBy 3 0 0 (x_Ri q) 0 0 41 [some (.ref v0), some (.int v1), some (.int v2), some (.int v3), some (.int v4)] [] M := by
  unfold f_X9_throughBy_c38 at H
  refine x_iinc 41 4 (v4 + (1 : Int32)) [some (.ref v0), some (.int v1), some (.int v2), some (.int v3), some (.int (v4 + (1 : Int32)))] dX9_throughBy_41 rfl (congrArg (fun z : Int32 => v4 + z) (show Int32.ofInt (1) = (1 : Int32) by decide)) rfl (Nat.le_of_ble_eq_true rfl) rfl ?_
  refine x_goto 44 8 dX9_throughBy_44 (by decide) ?_
  exact hκ8 _ _ _ _ _ _ H

def bd_X9_throughBy_8 (κ8 : Nat → Int32 → Int32 → Int32 → Int32 → XM → Option (Int32 × XM)) (v0 : Nat) (v1 : Int32) (v2 : Int32) (v3 : Int32) (v4 : Int32) (M : XM) : Option (Int32 × XM) :=
  if (400 : Int32) < v4 then (some ((-1 : Int32), M)) else (if x_tag M v0 = 9 + 10 then (if (x_i M v0 31) = (x_i M v0 1) then (some (v4, M)) else (x_bv (f_X9_goes v0 v1 (v4 + (1 : Int32)) v2 v3 M) (f_X9_throughBy_c38 κ8 v0 v1 v2 v3 v4))) else none)
set_option maxRecDepth 20000 in
set_option maxHeartbeats 4000000 in
theorem tb_X9_throughBy_8 (l : Launch) {κ8 : Nat → Int32 → Int32 → Int32 → Int32 → XM → Option (Int32 × XM)} {v0 : Nat} {v1 : Int32} {v2 : Int32} {v3 : Int32} {v4 : Int32} {M : XM} {q : Int32 × XM} (hκ8 : ∀ (v0 : Nat) (v1 : Int32) (v2 : Int32) (v3 : Int32) (v4 : Int32) (M : XM), κ8 v0 v1 v2 v3 v4 M = some q → AW l m_X9_throughBy 3 0 0 (x_Ri q) 0 0 8 [some (.ref v0), some (.int v1), some (.int v2), some (.int v3), some (.int v4)] [] M) (H : bd_X9_throughBy_8 κ8 v0 v1 v2 v3 v4 M = some q) : AW l m_X9_throughBy 3 0 0 (x_Ri q) 0 0 8 [some (.ref v0), some (.int v1), some (.int v2), some (.int v3), some (.int v4)] [] M := by
  unfold bd_X9_throughBy_8 at H
  refine x_iload 8 4 dX9_throughBy_8 rfl ?_
  refine x_sipush 10 (400 : Int32) dX9_throughBy_10 (by decide) ?_
  refine x_icmp_gt 13 47 dX9_throughBy_13 (by decide) (fun c5 => ?_) (fun c5 => ?_)
  · replace H := x_ifp c5 H
    refine x_iconst 47 (-1 : Int32) dX9_throughBy_47 (by decide) ?_
    cases H
    exact x_iret 48 dX9_throughBy_48 .int rfl rfl (Nat.le_of_ble_eq_true rfl) (Nat.le_of_ble_eq_true rfl) ⟨rfl, rfl⟩
  · replace H := x_ifn c5 H
    refine x_aload_n 16 0 dX9_throughBy_16 rfl rfl ?_
    obtain ⟨h6, H⟩ := x_ckp H
    refine x_getf 17 187 9 31 (.int (x_i M v0 31)) dX9_throughBy_17 lk_1061 (by decide) (by decide) rfl (fun _ => rfl) h6 ?_
    refine x_aload_n 20 0 dX9_throughBy_20 rfl rfl ?_
    refine x_getf 21 7 9 1 (.int (x_i M v0 1)) dX9_throughBy_21 lk_1031 (by decide) (by decide) rfl (fun _ => rfl) h6 ?_
    refine x_icmp_ne 24 30 dX9_throughBy_24 (by decide) (fun c7 => ?_) (fun c7 => ?_)
    · replace H := x_ifn c7 H
      refine x_aload_n 30 0 dX9_throughBy_30 rfl rfl ?_
      refine x_iload_n 31 1 dX9_throughBy_31 rfl rfl ?_
      refine x_iload 32 4 dX9_throughBy_32 rfl ?_
      refine x_iconst 34 (1 : Int32) dX9_throughBy_34 (by decide) ?_
      refine x_iadd 35 dX9_throughBy_35 ?_
      refine x_iload_n 36 2 dX9_throughBy_36 rfl rfl ?_
      refine x_iload_n 37 3 dX9_throughBy_37 rfl rfl ?_
      obtain ⟨M8, e10, H⟩ := x_bv_of H
      refine x_callV 38 202 9 [(.int v1), (.int (v4 + (1 : Int32))), (.int v2), (.int v3)] [] dX9_throughBy_38 (ct_X9_goes l e10) lk_1306 lk_1308 lk_58 (by decide) h6 lk_94 lk_1309 ⟨cn_X9_goes, (by decide), by decide⟩ rfl (Nat.le_of_ble_eq_true rfl) (Nat.le_of_ble_eq_true rfl) (Nat.le_of_ble_eq_true rfl) (x_rv ?_)
      exact t_X9_throughBy_c38 l hκ8 H
    · replace H := x_ifp c7 H
      refine x_iload 27 4 dX9_throughBy_27 rfl ?_
      cases H
      exact x_iret 29 dX9_throughBy_29 .int rfl rfl (Nat.le_of_ble_eq_true rfl) (Nat.le_of_ble_eq_true rfl) ⟨rfl, rfl⟩

def lp_X9_throughBy_8 (n : Nat) : Nat → Int32 → Int32 → Int32 → Int32 → XM → Option (Int32 × XM) := x_rec (fun _ _ _ _ _ _ => none) (bd_X9_throughBy_8) n
theorem t_X9_throughBy_8 (l : Launch) {q : Int32 × XM} : ∀ (n : Nat) (v0 : Nat) (v1 : Int32) (v2 : Int32) (v3 : Int32) (v4 : Int32) (M : XM), lp_X9_throughBy_8 n v0 v1 v2 v3 v4 M = some q → AW l m_X9_throughBy 3 0 0 (x_Ri q) 0 0 8 [some (.ref v0), some (.int v1), some (.int v2), some (.int v3), some (.int v4)] [] M := by
  intro n
  induction n with
  | zero => intro v0 v1 v2 v3 v4 M H; cases H
  | succ n ih => intro v0 v1 v2 v3 v4 M H; exact tb_X9_throughBy_8 l ih H
def f_X9_throughBy_c2 (v0 : Nat) (v1 : Int32) (v2 : Int32) (v3 : Int32) (M : XM) : Option (Int32 × XM) :=
  lp_X9_throughBy_8 x_fuel v0 v1 v2 v3 (0 : Int32) M
set_option maxRecDepth 20000 in
set_option maxHeartbeats 4000000 in
theorem t_X9_throughBy_c2 (l : Launch) {v0 : Nat} {v1 : Int32} {v2 : Int32} {v3 : Int32} {M : XM} {q : Int32 × XM} (H : f_X9_throughBy_c2 v0 v1 v2 v3 M = some q) : AW l m_X9_throughBy 3 0 0 (x_Ri q) 0 0 5 [some (.ref v0), some (.int v1), some (.int v2), some (.int v3), none] [] M := by
  unfold f_X9_throughBy_c2 at H
  refine x_iconst 5 (0 : Int32) dX9_throughBy_5 (by decide) ?_
  refine x_istore 6 4 [some (.ref v0), some (.int v1), some (.int v2), some (.int v3), some (.int (0 : Int32))] dX9_throughBy_6 rfl (Nat.le_of_ble_eq_true rfl) rfl ?_
  exact t_X9_throughBy_8 l _ _ _ _ _ _ _ H

def f_X9_throughBy (v0 : Nat) (v1 : Int32) (v2 : Int32) (v3 : Int32) (M : XM) : Option (Int32 × XM) :=
  if x_tag M v0 = 9 + 10 then (x_bv (f_X9_begins v0 v1 M) (f_X9_throughBy_c2 v0 v1 v2 v3)) else none
set_option maxRecDepth 20000 in
set_option maxHeartbeats 4000000 in
theorem t_X9_throughBy (l : Launch) {v0 : Nat} {v1 : Int32} {v2 : Int32} {v3 : Int32} {M : XM} {q : Int32 × XM} (H : f_X9_throughBy v0 v1 v2 v3 M = some q) : AW l m_X9_throughBy 3 0 0 (x_Ri q) 0 0 0 [some (.ref v0), some (.int v1), some (.int v2), some (.int v3), none] [] M := by
  unfold f_X9_throughBy at H
  refine x_aload_n 0 0 dX9_throughBy_0 rfl rfl ?_
  refine x_iload_n 1 1 dX9_throughBy_1 rfl rfl ?_
  obtain ⟨h1, H⟩ := x_ckp H
  obtain ⟨M2, e4, H⟩ := x_bv_of H
  refine x_callV 2 199 9 [(.int v1)] [] dX9_throughBy_2 (ct_X9_begins l e4) lk_1302 lk_1304 lk_57 (by decide) h1 lk_94 lk_1305 ⟨cn_X9_begins, (by decide), by decide⟩ rfl (Nat.le_of_ble_eq_true rfl) (Nat.le_of_ble_eq_true rfl) (Nat.le_of_ble_eq_true rfl) (x_rv ?_)
  exact t_X9_throughBy_c2 l H

theorem ct_X9_throughBy (l : Launch) {v0 : Nat} {v1 : Int32} {v2 : Int32} {v3 : Int32} {M : XM} {q : Int32 × XM} (H : f_X9_throughBy v0 v1 v2 v3 M = some q) : Ct l m_X9_throughBy 3 0 0 [(.ref v0), (.int v1), (.int v2), (.int v3)] M (x_Ri q) := x_met l m_X9_throughBy 3 0 0 [(.ref v0), (.int v1), (.int v2), (.int v3)] M (x_Ri q) _ rfl rfl (Nat.le_of_ble_eq_true rfl) (t_X9_throughBy l H)
theorem lk_1293 : Cond.code yX9_bars cX9_bars 4 (some .int) ∈ x_TB := x_tb (k := 1293) (by decide +kernel) rfl
theorem lk_1290 : Cond.methodLink RX9 206 yX9_bars ∈ x_TB := x_tb (k := 1290) (by decide +kernel) rfl
theorem lk_54 : Cond.selects RX9 yX9_bars yX9_bars ∈ x_TB := x_tb (k := 54) (by decide +kernel) rfl
theorem lk_1292 : Cond.instanceMethod yX9_bars ∈ x_TB := x_tb (k := 1292) (by decide +kernel) rfl
theorem lk_1297 : Cond.code yX9_areSeconds cX9_areSeconds 4 (some .boolean) ∈ x_TB := x_tb (k := 1297) (by decide +kernel) rfl
theorem lk_1294 : Cond.methodLink RX9 209 yX9_areSeconds ∈ x_TB := x_tb (k := 1294) (by decide +kernel) rfl
theorem lk_55 : Cond.selects RX9 yX9_areSeconds yX9_areSeconds ∈ x_TB := x_tb (k := 55) (by decide +kernel) rfl
theorem lk_1296 : Cond.instanceMethod yX9_areSeconds ∈ x_TB := x_tb (k := 1296) (by decide +kernel) rfl
abbrev m_X9_run : XU := (yX9_run, cX9_run, 8, (some .int))
theorem cn_X9_run : m_X9_run.1.cls ≠ "java/lang/invoke/MethodHandle" ∧ m_X9_run.1.cls ≠ "java/lang/invoke/VarHandle" ∧ (parseMethodDescriptor m_X9_run.1.desc).map (fun q => q.parameters.length) = some 5 := by decide +kernel
def f_X9_run_c118 (κ105 : Nat → Int32 → Int32 → Int32 → Int32 → Int32 → Int32 → XM → Option (Int32 × XM)) (v0 : Nat) (v1 : Int32) (v2 : Int32) (v3 : Int32) (v4 : Int32) (v5 : Int32) (v7 : Int32) (M : XM) : Option (Int32 × XM) :=
  κ105 v0 v1 v2 v3 v4 v5 (v7 + (1 : Int32)) M
set_option maxRecDepth 20000 in
set_option maxHeartbeats 4000000 in
theorem t_X9_run_c118 (l : Launch) {κ105 : Nat → Int32 → Int32 → Int32 → Int32 → Int32 → Int32 → XM → Option (Int32 × XM)} {v0 : Nat} {v1 : Int32} {v2 : Int32} {v3 : Int32} {v4 : Int32} {v5 : Int32} {v7 : Int32} {M : XM} {q : Int32 × XM} (hκ105 : ∀ (v0 : Nat) (v1 : Int32) (v2 : Int32) (v3 : Int32) (v4 : Int32) (v5 : Int32) (v7 : Int32) (M : XM), κ105 v0 v1 v2 v3 v4 v5 v7 M = some q → AW l m_X9_run 4 0 0 (x_Ri q) 0 0 105 [some (.ref v0), some (.int v1), some (.int v2), some (.int v3), some (.int v4), some (.int v5), none, some (.int v7)] [] M) (H : f_X9_run_c118 κ105 v0 v1 v2 v3 v4 v5 v7 M = some q) : AW l m_X9_run 4 0 0 (x_Ri q) 0 0 121 [some (.ref v0), some (.int v1), some (.int v2), some (.int v3), some (.int v4), some (.int v5), none, some (.int v7)] [] M := by
  unfold f_X9_run_c118 at H
  refine x_iinc 121 7 (v7 + (1 : Int32)) [some (.ref v0), some (.int v1), some (.int v2), some (.int v3), some (.int v4), some (.int v5), none, some (.int (v7 + (1 : Int32)))] dX9_run_121 rfl (congrArg (fun z : Int32 => v7 + z) (show Int32.ofInt (1) = (1 : Int32) by decide)) rfl (Nat.le_of_ble_eq_true rfl) rfl ?_
  refine x_goto 124 105 dX9_run_124 (by decide) ?_
  exact hκ105 _ _ _ _ _ _ _ _ H

def bd_X9_run_105 (κ105 : Nat → Int32 → Int32 → Int32 → Int32 → Int32 → Int32 → XM → Option (Int32 × XM)) (v0 : Nat) (v1 : Int32) (v2 : Int32) (v3 : Int32) (v4 : Int32) (v5 : Int32) (v7 : Int32) (M : XM) : Option (Int32 × XM) :=
  if v4 < v7 then (if v5 = 0 then (if x_tag M v0 = 9 + 10 then (some ((x_i M v0 31), M)) else none) else (if v5 = (1 : Int32) then (if x_tag M v0 = 9 + 10 then (some ((x_i M v0 32), M)) else none) else (if x_tag M v0 = 9 + 10 then (some ((x_i M v0 33), M)) else none))) else (if x_tag M v0 = 9 + 10 then (x_bv (f_X9_goes v0 v1 v7 v2 v3 M) (f_X9_run_c118 κ105 v0 v1 v2 v3 v4 v5 v7)) else none)
set_option maxRecDepth 20000 in
set_option maxHeartbeats 4000000 in
theorem tb_X9_run_105 (l : Launch) {κ105 : Nat → Int32 → Int32 → Int32 → Int32 → Int32 → Int32 → XM → Option (Int32 × XM)} {v0 : Nat} {v1 : Int32} {v2 : Int32} {v3 : Int32} {v4 : Int32} {v5 : Int32} {v7 : Int32} {M : XM} {q : Int32 × XM} (hκ105 : ∀ (v0 : Nat) (v1 : Int32) (v2 : Int32) (v3 : Int32) (v4 : Int32) (v5 : Int32) (v7 : Int32) (M : XM), κ105 v0 v1 v2 v3 v4 v5 v7 M = some q → AW l m_X9_run 4 0 0 (x_Ri q) 0 0 105 [some (.ref v0), some (.int v1), some (.int v2), some (.int v3), some (.int v4), some (.int v5), none, some (.int v7)] [] M) (H : bd_X9_run_105 κ105 v0 v1 v2 v3 v4 v5 v7 M = some q) : AW l m_X9_run 4 0 0 (x_Ri q) 0 0 105 [some (.ref v0), some (.int v1), some (.int v2), some (.int v3), some (.int v4), some (.int v5), none, some (.int v7)] [] M := by
  unfold bd_X9_run_105 at H
  refine x_iload 105 7 dX9_run_105 rfl ?_
  refine x_iload 107 4 dX9_run_107 rfl ?_
  refine x_icmp_gt 109 127 dX9_run_109 (by decide) (fun c19 => ?_) (fun c19 => ?_)
  · replace H := x_ifp c19 H
    refine x_iload 127 5 dX9_run_127 rfl ?_
    refine x_if_ne 129 139 dX9_run_129 (by decide) (fun c20 => ?_) (fun c20 => ?_)
    · replace H := x_ifn c20 H
      refine x_iload 139 5 dX9_run_139 rfl ?_
      refine x_iconst 141 (1 : Int32) dX9_run_141 (by decide) ?_
      refine x_icmp_ne 142 152 dX9_run_142 (by decide) (fun c22 => ?_) (fun c22 => ?_)
      · replace H := x_ifn c22 H
        refine x_aload_n 152 0 dX9_run_152 rfl rfl ?_
        obtain ⟨h24, H⟩ := x_ckp H
        refine x_getf 153 193 9 33 (.int (x_i M v0 33)) dX9_run_153 lk_1063 (by decide) (by decide) rfl (fun _ => rfl) h24 ?_
        cases H
        exact x_iret 156 dX9_run_156 .int rfl rfl (Nat.le_of_ble_eq_true rfl) (Nat.le_of_ble_eq_true rfl) ⟨rfl, rfl⟩
      · replace H := x_ifp c22 H
        refine x_aload_n 145 0 dX9_run_145 rfl rfl ?_
        obtain ⟨h23, H⟩ := x_ckp H
        refine x_getf 146 190 9 32 (.int (x_i M v0 32)) dX9_run_146 lk_1062 (by decide) (by decide) rfl (fun _ => rfl) h23 ?_
        refine x_goto 149 156 dX9_run_149 (by decide) ?_
        cases H
        exact x_iret 156 dX9_run_156 .int rfl rfl (Nat.le_of_ble_eq_true rfl) (Nat.le_of_ble_eq_true rfl) ⟨rfl, rfl⟩
    · replace H := x_ifp c20 H
      refine x_aload_n 132 0 dX9_run_132 rfl rfl ?_
      obtain ⟨h21, H⟩ := x_ckp H
      refine x_getf 133 187 9 31 (.int (x_i M v0 31)) dX9_run_133 lk_1061 (by decide) (by decide) rfl (fun _ => rfl) h21 ?_
      refine x_goto 136 156 dX9_run_136 (by decide) ?_
      cases H
      exact x_iret 156 dX9_run_156 .int rfl rfl (Nat.le_of_ble_eq_true rfl) (Nat.le_of_ble_eq_true rfl) ⟨rfl, rfl⟩
  · replace H := x_ifn c19 H
    refine x_aload_n 112 0 dX9_run_112 rfl rfl ?_
    refine x_iload_n 113 1 dX9_run_113 rfl rfl ?_
    refine x_iload 114 7 dX9_run_114 rfl ?_
    refine x_iload_n 116 2 dX9_run_116 rfl rfl ?_
    refine x_iload_n 117 3 dX9_run_117 rfl rfl ?_
    obtain ⟨h25, H⟩ := x_ckp H
    obtain ⟨M26, e28, H⟩ := x_bv_of H
    refine x_callV 118 202 9 [(.int v1), (.int v7), (.int v2), (.int v3)] [] dX9_run_118 (ct_X9_goes l e28) lk_1306 lk_1308 lk_58 (by decide) h25 lk_94 lk_1309 ⟨cn_X9_goes, (by decide), by decide⟩ rfl (Nat.le_of_ble_eq_true rfl) (Nat.le_of_ble_eq_true rfl) (Nat.le_of_ble_eq_true rfl) (x_rv ?_)
    exact t_X9_run_c118 l hκ105 H

def lp_X9_run_105 (n : Nat) : Nat → Int32 → Int32 → Int32 → Int32 → Int32 → Int32 → XM → Option (Int32 × XM) := x_rec (fun _ _ _ _ _ _ _ _ => none) (bd_X9_run_105) n
theorem t_X9_run_105 (l : Launch) {q : Int32 × XM} : ∀ (n : Nat) (v0 : Nat) (v1 : Int32) (v2 : Int32) (v3 : Int32) (v4 : Int32) (v5 : Int32) (v7 : Int32) (M : XM), lp_X9_run_105 n v0 v1 v2 v3 v4 v5 v7 M = some q → AW l m_X9_run 4 0 0 (x_Ri q) 0 0 105 [some (.ref v0), some (.int v1), some (.int v2), some (.int v3), some (.int v4), some (.int v5), none, some (.int v7)] [] M := by
  intro n
  induction n with
  | zero => intro v0 v1 v2 v3 v4 v5 v7 M H; cases H
  | succ n ih => intro v0 v1 v2 v3 v4 v5 v7 M H; exact tb_X9_run_105 l ih H
def f_X9_run_c99 (v0 : Nat) (v1 : Int32) (v2 : Int32) (v3 : Int32) (v4 : Int32) (v5 : Int32) (M : XM) : Option (Int32 × XM) :=
  lp_X9_run_105 x_fuel v0 v1 v2 v3 v4 v5 (1 : Int32) M
set_option maxRecDepth 20000 in
set_option maxHeartbeats 4000000 in
theorem t_X9_run_c99 (l : Launch) {v0 : Nat} {v1 : Int32} {v2 : Int32} {v3 : Int32} {v4 : Int32} {v5 : Int32} {M : XM} {q : Int32 × XM} (H : f_X9_run_c99 v0 v1 v2 v3 v4 v5 M = some q) : AW l m_X9_run 4 0 0 (x_Ri q) 0 0 102 [some (.ref v0), some (.int v1), some (.int v2), some (.int v3), some (.int v4), some (.int v5), none, none] [] M := by
  unfold f_X9_run_c99 at H
  refine x_iconst 102 (1 : Int32) dX9_run_102 (by decide) ?_
  refine x_istore 103 7 [some (.ref v0), some (.int v1), some (.int v2), some (.int v3), some (.int v4), some (.int v5), none, some (.int (1 : Int32))] dX9_run_103 rfl (Nat.le_of_ble_eq_true rfl) rfl ?_
  exact t_X9_run_105 l _ _ _ _ _ _ _ _ _ H

def f_X9_run_85 (v0 : Nat) (v1 : Int32) (v2 : Int32) (v3 : Int32) (v4 : Int32) (v5 : Int32) (v6 : Int32) (M : XM) : Option (Int32 × XM) :=
  if v6 = 0 then (if x_tag M v0 = 9 + 10 then (x_bv (f_X9_begins v0 v1 M) (f_X9_run_c99 v0 v1 v2 v3 v4 v5)) else none) else (if x_tag M v0 = 9 + 10 then (x_bd (f_X9_no v0 v6 M) (fun r31 M30 => some (r31, M30))) else none)
set_option maxRecDepth 20000 in
set_option maxHeartbeats 4000000 in
theorem t_X9_run_85 (l : Launch) {v0 : Nat} {v1 : Int32} {v2 : Int32} {v3 : Int32} {v4 : Int32} {v5 : Int32} {v6 : Int32} {M : XM} {q : Int32 × XM} (H : f_X9_run_85 v0 v1 v2 v3 v4 v5 v6 M = some q) : AW l m_X9_run 4 0 0 (x_Ri q) 0 0 85 [some (.ref v0), some (.int v1), some (.int v2), some (.int v3), some (.int v4), some (.int v5), some (.int v6), none] [] M := by
  unfold f_X9_run_85 at H
  refine x_iload 85 6 dX9_run_85 rfl ?_
  refine x_if_eq 87 97 dX9_run_87 (by decide) (fun c14 => ?_) (fun c14 => ?_)
  · replace H := x_ifp c14 H
    refine x_aload_n 97 0 dX9_run_97 rfl rfl ?_
    refine x_iload_n 98 1 dX9_run_98 rfl rfl ?_
    obtain ⟨h15, H⟩ := x_ckp H
    obtain ⟨M16, e18, H⟩ := x_bv_of H
    refine x_callV 99 199 9 [(.int v1)] [] dX9_run_99 (ct_X9_begins l e18) lk_1302 lk_1304 lk_57 (by decide) h15 lk_94 lk_1305 ⟨cn_X9_begins, (by decide), by decide⟩ rfl (Nat.le_of_ble_eq_true rfl) (Nat.le_of_ble_eq_true rfl) (Nat.le_of_ble_eq_true rfl) (x_rv ?_)
    exact x_wk (le_s (le_s (le_s (le_s (le_s (le_s (le_n (le_s le_0)))))))) (t_X9_run_c99 l H)
  · replace H := x_ifn c14 H
    refine x_aload_n 90 0 dX9_run_90 rfl rfl ?_
    refine x_iload 91 6 dX9_run_91 rfl ?_
    obtain ⟨h29, H⟩ := x_ckp H
    obtain ⟨r31, M30, e32, H⟩ := x_bd_of H
    refine x_callV 93 100 9 [(.int v6)] [] dX9_run_93 (ct_X9_no l e32) lk_1165 lk_1167 lk_37 (by decide) h29 lk_94 lk_1168 ⟨cn_X9_no, (by decide), by decide⟩ rfl (Nat.le_of_ble_eq_true rfl) (Nat.le_of_ble_eq_true rfl) (Nat.le_of_ble_eq_true rfl) (x_ri ?_)
    cases H
    exact x_iret 96 dX9_run_96 .int rfl rfl (Nat.le_of_ble_eq_true rfl) (Nat.le_of_ble_eq_true rfl) ⟨rfl, rfl⟩

def f_X9_run_81 (v0 : Nat) (v1 : Int32) (v2 : Int32) (v3 : Int32) (v4 : Int32) (v5 : Int32) (M : XM) : Option (Int32 × XM) :=
  f_X9_run_85 v0 v1 v2 v3 v4 v5 (-6 : Int32) M
set_option maxRecDepth 20000 in
set_option maxHeartbeats 4000000 in
theorem t_X9_run_81 (l : Launch) {v0 : Nat} {v1 : Int32} {v2 : Int32} {v3 : Int32} {v4 : Int32} {v5 : Int32} {M : XM} {q : Int32 × XM} (H : f_X9_run_81 v0 v1 v2 v3 v4 v5 M = some q) : AW l m_X9_run 4 0 0 (x_Ri q) 0 0 81 [some (.ref v0), some (.int v1), some (.int v2), some (.int v3), some (.int v4), some (.int v5), none, none] [] M := by
  unfold f_X9_run_81 at H
  refine x_bipush 81 (-6 : Int32) dX9_run_81 (by decide) ?_
  refine x_istore 83 6 [some (.ref v0), some (.int v1), some (.int v2), some (.int v3), some (.int v4), some (.int v5), some (.int (-6 : Int32)), none] dX9_run_83 rfl (Nat.le_of_ble_eq_true rfl) rfl ?_
  exact t_X9_run_85 l H

def f_X9_run_c75 (v0 : Nat) (v1 : Int32) (v2 : Int32) (v3 : Int32) (v4 : Int32) (v5 : Int32) (v6 : Int32) (s0 : Int32) (M : XM) : Option (Int32 × XM) :=
  if s0 = 0 then (f_X9_run_81 v0 v1 v2 v3 v4 v5 M) else (f_X9_run_85 v0 v1 v2 v3 v4 v5 v6 M)
set_option maxRecDepth 20000 in
set_option maxHeartbeats 4000000 in
theorem t_X9_run_c75 (l : Launch) {v0 : Nat} {v1 : Int32} {v2 : Int32} {v3 : Int32} {v4 : Int32} {v5 : Int32} {v6 : Int32} {s0 : Int32} {M : XM} {q : Int32 × XM} (H : f_X9_run_c75 v0 v1 v2 v3 v4 v5 v6 s0 M = some q) : AW l m_X9_run 4 0 0 (x_Ri q) 0 0 78 [some (.ref v0), some (.int v1), some (.int v2), some (.int v3), some (.int v4), some (.int v5), some (.int v6), none] [(.int s0)] M := by
  unfold f_X9_run_c75 at H
  refine x_if_ne 78 85 dX9_run_78 (by decide) (fun c39 => ?_) (fun c39 => ?_)
  · replace H := x_ifn c39 H
    exact t_X9_run_85 l H
  · replace H := x_ifp c39 H
    exact x_wk (le_s (le_s (le_s (le_s (le_s (le_s (le_n (le_s le_0)))))))) (t_X9_run_81 l H)

def f_X9_run_48 (v0 : Nat) (v1 : Int32) (v2 : Int32) (v3 : Int32) (v4 : Int32) (v5 : Int32) (v6 : Int32) (M : XM) : Option (Int32 × XM) :=
  if v6 = 0 then (if (40 : Int32) < v3 then (f_X9_run_81 v0 v1 v2 v3 v4 v5 M) else (if v4 < 0 then (f_X9_run_81 v0 v1 v2 v3 v4 v5 M) else (if (400 : Int32) < v4 then (f_X9_run_81 v0 v1 v2 v3 v4 v5 M) else (if x_tag M v0 = 9 + 10 then (x_bd (f_X9_areSeconds v0 v2 v3 M) (f_X9_run_c75 v0 v1 v2 v3 v4 v5 v6)) else none)))) else (f_X9_run_85 v0 v1 v2 v3 v4 v5 v6 M)
set_option maxRecDepth 20000 in
set_option maxHeartbeats 4000000 in
theorem t_X9_run_48 (l : Launch) {v0 : Nat} {v1 : Int32} {v2 : Int32} {v3 : Int32} {v4 : Int32} {v5 : Int32} {v6 : Int32} {M : XM} {q : Int32 × XM} (H : f_X9_run_48 v0 v1 v2 v3 v4 v5 v6 M = some q) : AW l m_X9_run 4 0 0 (x_Ri q) 0 0 48 [some (.ref v0), some (.int v1), some (.int v2), some (.int v3), some (.int v4), some (.int v5), some (.int v6), none] [] M := by
  unfold f_X9_run_48 at H
  refine x_iload 48 6 dX9_run_48 rfl ?_
  refine x_if_ne 50 85 dX9_run_50 (by decide) (fun c12 => ?_) (fun c12 => ?_)
  · replace H := x_ifn c12 H
    exact t_X9_run_85 l H
  · replace H := x_ifp c12 H
    refine x_iload_n 53 3 dX9_run_53 rfl rfl ?_
    refine x_bipush 54 (40 : Int32) dX9_run_54 (by decide) ?_
    refine x_icmp_gt 56 81 dX9_run_56 (by decide) (fun c13 => ?_) (fun c13 => ?_)
    · replace H := x_ifp c13 H
      exact x_wk (le_s (le_s (le_s (le_s (le_s (le_s (le_n (le_s le_0)))))))) (t_X9_run_81 l H)
    · replace H := x_ifn c13 H
      refine x_iload 59 4 dX9_run_59 rfl ?_
      refine x_if_lt 61 81 dX9_run_61 (by decide) (fun c33 => ?_) (fun c33 => ?_)
      · replace H := x_ifp c33 H
        exact x_wk (le_s (le_s (le_s (le_s (le_s (le_s (le_n (le_s le_0)))))))) (t_X9_run_81 l H)
      · replace H := x_ifn c33 H
        refine x_iload 64 4 dX9_run_64 rfl ?_
        refine x_sipush 66 (400 : Int32) dX9_run_66 (by decide) ?_
        refine x_icmp_gt 69 81 dX9_run_69 (by decide) (fun c34 => ?_) (fun c34 => ?_)
        · replace H := x_ifp c34 H
          exact x_wk (le_s (le_s (le_s (le_s (le_s (le_s (le_n (le_s le_0)))))))) (t_X9_run_81 l H)
        · replace H := x_ifn c34 H
          refine x_aload_n 72 0 dX9_run_72 rfl rfl ?_
          refine x_iload_n 73 2 dX9_run_73 rfl rfl ?_
          refine x_iload_n 74 3 dX9_run_74 rfl rfl ?_
          obtain ⟨h35, H⟩ := x_ckp H
          obtain ⟨r37, M36, e38, H⟩ := x_bd_of H
          refine x_callV 75 209 9 [(.int v2), (.int v3)] [] dX9_run_75 (ct_X9_areSeconds l e38) lk_1294 lk_1296 lk_55 (by decide) h35 lk_94 lk_1297 ⟨cn_X9_areSeconds, (by decide), by decide⟩ rfl (Nat.le_of_ble_eq_true rfl) (Nat.le_of_ble_eq_true rfl) (Nat.le_of_ble_eq_true rfl) (x_ri ?_)
          exact t_X9_run_c75 l H

def f_X9_run_44 (v0 : Nat) (v1 : Int32) (v2 : Int32) (v3 : Int32) (v4 : Int32) (v5 : Int32) (M : XM) : Option (Int32 × XM) :=
  f_X9_run_48 v0 v1 v2 v3 v4 v5 (-5 : Int32) M
set_option maxRecDepth 20000 in
set_option maxHeartbeats 4000000 in
theorem t_X9_run_44 (l : Launch) {v0 : Nat} {v1 : Int32} {v2 : Int32} {v3 : Int32} {v4 : Int32} {v5 : Int32} {M : XM} {q : Int32 × XM} (H : f_X9_run_44 v0 v1 v2 v3 v4 v5 M = some q) : AW l m_X9_run 4 0 0 (x_Ri q) 0 0 44 [some (.ref v0), some (.int v1), some (.int v2), some (.int v3), some (.int v4), some (.int v5), none, none] [] M := by
  unfold f_X9_run_44 at H
  refine x_bipush 44 (-5 : Int32) dX9_run_44 (by decide) ?_
  refine x_istore 46 6 [some (.ref v0), some (.int v1), some (.int v2), some (.int v3), some (.int v4), some (.int v5), some (.int (-5 : Int32)), none] dX9_run_46 rfl (Nat.le_of_ble_eq_true rfl) rfl ?_
  exact t_X9_run_48 l H

def f_X9_run_26 (v0 : Nat) (v1 : Int32) (v2 : Int32) (v3 : Int32) (v4 : Int32) (v5 : Int32) (s0 : Int32) (M : XM) : Option (Int32 × XM) :=
  if s0 = 0 then (if v5 < 0 then (f_X9_run_44 v0 v1 v2 v3 v4 v5 M) else (if v5 ≤ (2 : Int32) then (f_X9_run_48 v0 v1 v2 v3 v4 v5 s0 M) else (f_X9_run_44 v0 v1 v2 v3 v4 v5 M))) else (f_X9_run_48 v0 v1 v2 v3 v4 v5 s0 M)
set_option maxRecDepth 20000 in
set_option maxHeartbeats 4000000 in
theorem t_X9_run_26 (l : Launch) {v0 : Nat} {v1 : Int32} {v2 : Int32} {v3 : Int32} {v4 : Int32} {v5 : Int32} {s0 : Int32} {M : XM} {q : Int32 × XM} (H : f_X9_run_26 v0 v1 v2 v3 v4 v5 s0 M = some q) : AW l m_X9_run 4 0 0 (x_Ri q) 0 0 26 [some (.ref v0), some (.int v1), some (.int v2), some (.int v3), some (.int v4), some (.int v5), none, none] [(.int s0)] M := by
  unfold f_X9_run_26 at H
  refine x_istore 26 6 [some (.ref v0), some (.int v1), some (.int v2), some (.int v3), some (.int v4), some (.int v5), some (.int s0), none] dX9_run_26 rfl (Nat.le_of_ble_eq_true rfl) rfl ?_
  refine x_iload 28 6 dX9_run_28 rfl ?_
  refine x_if_ne 30 48 dX9_run_30 (by decide) (fun c10 => ?_) (fun c10 => ?_)
  · replace H := x_ifn c10 H
    exact t_X9_run_48 l H
  · replace H := x_ifp c10 H
    refine x_iload 33 5 dX9_run_33 rfl ?_
    refine x_if_lt 35 44 dX9_run_35 (by decide) (fun c11 => ?_) (fun c11 => ?_)
    · replace H := x_ifp c11 H
      exact x_wk (le_s (le_s (le_s (le_s (le_s (le_s (le_n (le_s le_0)))))))) (t_X9_run_44 l H)
    · replace H := x_ifn c11 H
      refine x_iload 38 5 dX9_run_38 rfl ?_
      refine x_iconst 40 (2 : Int32) dX9_run_40 (by decide) ?_
      refine x_icmp_le 41 48 dX9_run_41 (by decide) (fun c40 => ?_) (fun c40 => ?_)
      · replace H := x_ifp c40 H
        exact t_X9_run_48 l H
      · replace H := x_ifn c40 H
        exact x_wk (le_s (le_s (le_s (le_s (le_s (le_s (le_n (le_s le_0)))))))) (t_X9_run_44 l H)

def f_X9_run_c23 (v0 : Nat) (v1 : Int32) (v2 : Int32) (v3 : Int32) (v4 : Int32) (v5 : Int32) (s0 : Int32) (M : XM) : Option (Int32 × XM) :=
  f_X9_run_26 v0 v1 v2 v3 v4 v5 s0 M
set_option maxRecDepth 20000 in
set_option maxHeartbeats 4000000 in
theorem t_X9_run_c23 (l : Launch) {v0 : Nat} {v1 : Int32} {v2 : Int32} {v3 : Int32} {v4 : Int32} {v5 : Int32} {s0 : Int32} {M : XM} {q : Int32 × XM} (H : f_X9_run_c23 v0 v1 v2 v3 v4 v5 s0 M = some q) : AW l m_X9_run 4 0 0 (x_Ri q) 0 0 26 [some (.ref v0), some (.int v1), some (.int v2), some (.int v3), some (.int v4), some (.int v5), none, none] [(.int s0)] M := by
  unfold f_X9_run_c23 at H
  exact t_X9_run_26 l H

def f_X9_run_20 (v0 : Nat) (v1 : Int32) (v2 : Int32) (v3 : Int32) (v4 : Int32) (v5 : Int32) (M : XM) : Option (Int32 × XM) :=
  if x_tag M v0 = 9 + 10 then (x_bd (f_X9_bars v0 v2 v3 M) (f_X9_run_c23 v0 v1 v2 v3 v4 v5)) else none
set_option maxRecDepth 20000 in
set_option maxHeartbeats 4000000 in
theorem t_X9_run_20 (l : Launch) {v0 : Nat} {v1 : Int32} {v2 : Int32} {v3 : Int32} {v4 : Int32} {v5 : Int32} {M : XM} {q : Int32 × XM} (H : f_X9_run_20 v0 v1 v2 v3 v4 v5 M = some q) : AW l m_X9_run 4 0 0 (x_Ri q) 0 0 20 [some (.ref v0), some (.int v1), some (.int v2), some (.int v3), some (.int v4), some (.int v5), none, none] [] M := by
  unfold f_X9_run_20 at H
  refine x_aload_n 20 0 dX9_run_20 rfl rfl ?_
  refine x_iload_n 21 2 dX9_run_21 rfl rfl ?_
  refine x_iload_n 22 3 dX9_run_22 rfl rfl ?_
  obtain ⟨h6, H⟩ := x_ckp H
  obtain ⟨r8, M7, e9, H⟩ := x_bd_of H
  refine x_callV 23 206 9 [(.int v2), (.int v3)] [] dX9_run_23 (ct_X9_bars l e9) lk_1290 lk_1292 lk_54 (by decide) h6 lk_94 lk_1293 ⟨cn_X9_bars, (by decide), by decide⟩ rfl (Nat.le_of_ble_eq_true rfl) (Nat.le_of_ble_eq_true rfl) (Nat.le_of_ble_eq_true rfl) (x_ri ?_)
  exact t_X9_run_c23 l H

def f_X9_run_c10 (v0 : Nat) (v1 : Int32) (v2 : Int32) (v3 : Int32) (v4 : Int32) (v5 : Int32) (s0 : Int32) (M : XM) : Option (Int32 × XM) :=
  if s0 = 0 then (f_X9_run_26 v0 v1 v2 v3 v4 v5 (-1 : Int32) M) else (f_X9_run_20 v0 v1 v2 v3 v4 v5 M)
set_option maxRecDepth 20000 in
set_option maxHeartbeats 4000000 in
theorem t_X9_run_c10 (l : Launch) {v0 : Nat} {v1 : Int32} {v2 : Int32} {v3 : Int32} {v4 : Int32} {v5 : Int32} {s0 : Int32} {M : XM} {q : Int32 × XM} (H : f_X9_run_c10 v0 v1 v2 v3 v4 v5 s0 M = some q) : AW l m_X9_run 4 0 0 (x_Ri q) 0 0 13 [some (.ref v0), some (.int v1), some (.int v2), some (.int v3), some (.int v4), some (.int v5), none, none] [(.int s0)] M := by
  unfold f_X9_run_c10 at H
  refine x_if_ne 13 20 dX9_run_13 (by decide) (fun c45 => ?_) (fun c45 => ?_)
  · replace H := x_ifn c45 H
    exact t_X9_run_20 l H
  · replace H := x_ifp c45 H
    refine x_iconst 16 (-1 : Int32) dX9_run_16 (by decide) ?_
    refine x_goto 17 26 dX9_run_17 (by decide) ?_
    exact t_X9_run_26 l H

def f_X9_run_c2 (v0 : Nat) (v1 : Int32) (v2 : Int32) (v3 : Int32) (v4 : Int32) (v5 : Int32) (s0 : Int32) (M : XM) : Option (Int32 × XM) :=
  if s0 = 0 then (f_X9_run_20 v0 v1 v2 v3 v4 v5 M) else (if x_tag M v0 = 9 + 10 then (x_bd (f_X9_isCounter v0 v1 M) (f_X9_run_c10 v0 v1 v2 v3 v4 v5)) else none)
set_option maxRecDepth 20000 in
set_option maxHeartbeats 4000000 in
theorem t_X9_run_c2 (l : Launch) {v0 : Nat} {v1 : Int32} {v2 : Int32} {v3 : Int32} {v4 : Int32} {v5 : Int32} {s0 : Int32} {M : XM} {q : Int32 × XM} (H : f_X9_run_c2 v0 v1 v2 v3 v4 v5 s0 M = some q) : AW l m_X9_run 4 0 0 (x_Ri q) 0 0 5 [some (.ref v0), some (.int v1), some (.int v2), some (.int v3), some (.int v4), some (.int v5), none, none] [(.int s0)] M := by
  unfold f_X9_run_c2 at H
  refine x_if_eq 5 20 dX9_run_5 (by decide) (fun c5 => ?_) (fun c5 => ?_)
  · replace H := x_ifp c5 H
    exact t_X9_run_20 l H
  · replace H := x_ifn c5 H
    refine x_aload_n 8 0 dX9_run_8 rfl rfl ?_
    refine x_iload_n 9 1 dX9_run_9 rfl rfl ?_
    obtain ⟨h41, H⟩ := x_ckp H
    obtain ⟨r43, M42, e44, H⟩ := x_bd_of H
    refine x_callV 10 104 9 [(.int v1)] [] dX9_run_10 (ct_X9_isCounter l e44) lk_1185 lk_1187 lk_38 (by decide) h41 lk_94 lk_1188 ⟨cn_X9_isCounter, (by decide), by decide⟩ rfl (Nat.le_of_ble_eq_true rfl) (Nat.le_of_ble_eq_true rfl) (Nat.le_of_ble_eq_true rfl) (x_ri ?_)
    exact t_X9_run_c10 l H

def f_X9_run (v0 : Nat) (v1 : Int32) (v2 : Int32) (v3 : Int32) (v4 : Int32) (v5 : Int32) (M : XM) : Option (Int32 × XM) :=
  if x_tag M v0 = 9 + 10 then (x_bd (f_X9_isShelf v0 v2 M) (f_X9_run_c2 v0 v1 v2 v3 v4 v5)) else none
set_option maxRecDepth 20000 in
set_option maxHeartbeats 4000000 in
theorem t_X9_run (l : Launch) {v0 : Nat} {v1 : Int32} {v2 : Int32} {v3 : Int32} {v4 : Int32} {v5 : Int32} {M : XM} {q : Int32 × XM} (H : f_X9_run v0 v1 v2 v3 v4 v5 M = some q) : AW l m_X9_run 4 0 0 (x_Ri q) 0 0 0 [some (.ref v0), some (.int v1), some (.int v2), some (.int v3), some (.int v4), some (.int v5), none, none] [] M := by
  unfold f_X9_run at H
  refine x_aload_n 0 0 dX9_run_0 rfl rfl ?_
  refine x_iload_n 1 2 dX9_run_1 rfl rfl ?_
  obtain ⟨h1, H⟩ := x_ckp H
  obtain ⟨r3, M2, e4, H⟩ := x_bd_of H
  refine x_callV 2 96 9 [(.int v2)] [] dX9_run_2 (ct_X9_isShelf l e4) lk_1161 lk_1163 lk_36 (by decide) h1 lk_94 lk_1164 ⟨cn_X9_isShelf, (by decide), by decide⟩ rfl (Nat.le_of_ble_eq_true rfl) (Nat.le_of_ble_eq_true rfl) (Nat.le_of_ble_eq_true rfl) (x_ri ?_)
  exact t_X9_run_c2 l H

theorem ct_X9_run (l : Launch) {v0 : Nat} {v1 : Int32} {v2 : Int32} {v3 : Int32} {v4 : Int32} {v5 : Int32} {M : XM} {q : Int32 × XM} (H : f_X9_run v0 v1 v2 v3 v4 v5 M = some q) : Ct l m_X9_run 4 0 0 [(.ref v0), (.int v1), (.int v2), (.int v3), (.int v4), (.int v5)] M (x_Ri q) := x_met l m_X9_run 4 0 0 [(.ref v0), (.int v1), (.int v2), (.int v3), (.int v4), (.int v5)] M (x_Ri q) _ rfl rfl (Nat.le_of_ble_eq_true rfl) (t_X9_run l H)
theorem lk_1321 : Cond.code yX9_throughBy cX9_throughBy 5 (some .int) ∈ x_TB := x_tb (k := 1321) (by decide +kernel) rfl
theorem lk_1318 : Cond.methodLink RX9 215 yX9_throughBy ∈ x_TB := x_tb (k := 1318) (by decide +kernel) rfl
theorem lk_60 : Cond.selects RX9 yX9_throughBy yX9_throughBy ∈ x_TB := x_tb (k := 60) (by decide +kernel) rfl
theorem lk_1320 : Cond.instanceMethod yX9_throughBy ∈ x_TB := x_tb (k := 1320) (by decide +kernel) rfl
theorem lk_1317 : Cond.code yX9_noTen cX9_noTen 2 (some .int) ∈ x_TB := x_tb (k := 1317) (by decide +kernel) rfl
theorem lk_1314 : Cond.methodLink RX9 212 yX9_noTen ∈ x_TB := x_tb (k := 1314) (by decide +kernel) rfl
theorem lk_59 : Cond.selects RX9 yX9_noTen yX9_noTen ∈ x_TB := x_tb (k := 59) (by decide +kernel) rfl
theorem lk_1316 : Cond.instanceMethod yX9_noTen ∈ x_TB := x_tb (k := 1316) (by decide +kernel) rfl
abbrev m_X9_through : XU := (yX9_through, cX9_through, 5, (some .int))
theorem cn_X9_through : m_X9_through.1.cls ≠ "java/lang/invoke/MethodHandle" ∧ m_X9_through.1.cls ≠ "java/lang/invoke/VarHandle" ∧ (parseMethodDescriptor m_X9_through.1.desc).map (fun q => q.parameters.length) = some 3 := by decide +kernel
def f_X9_through_52 (v0 : Nat) (v1 : Int32) (v2 : Int32) (v3 : Int32) (v4 : Int32) (M : XM) : Option (Int32 × XM) :=
  if v4 = 0 then (if x_tag M v0 = 9 + 10 then (x_bd (f_X9_throughBy v0 v1 v2 v3 M) (fun r15 M14 => some (r15, M14))) else none) else (if x_tag M v0 = 9 + 10 then (x_bd (f_X9_noTen v0 v4 M) (fun r19 M18 => some (r19, M18))) else none)
set_option maxRecDepth 20000 in
set_option maxHeartbeats 4000000 in
theorem t_X9_through_52 (l : Launch) {v0 : Nat} {v1 : Int32} {v2 : Int32} {v3 : Int32} {v4 : Int32} {M : XM} {q : Int32 × XM} (H : f_X9_through_52 v0 v1 v2 v3 v4 M = some q) : AW l m_X9_through 4 0 0 (x_Ri q) 0 0 52 [some (.ref v0), some (.int v1), some (.int v2), some (.int v3), some (.int v4)] [] M := by
  unfold f_X9_through_52 at H
  refine x_iload 52 4 dX9_through_52 rfl ?_
  refine x_if_eq 54 66 dX9_through_54 (by decide) (fun c12 => ?_) (fun c12 => ?_)
  · replace H := x_ifp c12 H
    refine x_aload_n 66 0 dX9_through_66 rfl rfl ?_
    refine x_iload_n 67 1 dX9_through_67 rfl rfl ?_
    refine x_iload_n 68 2 dX9_through_68 rfl rfl ?_
    refine x_iload_n 69 3 dX9_through_69 rfl rfl ?_
    obtain ⟨h13, H⟩ := x_ckp H
    obtain ⟨r15, M14, e16, H⟩ := x_bd_of H
    refine x_callV 70 215 9 [(.int v1), (.int v2), (.int v3)] [] dX9_through_70 (ct_X9_throughBy l e16) lk_1318 lk_1320 lk_60 (by decide) h13 lk_94 lk_1321 ⟨cn_X9_throughBy, (by decide), by decide⟩ rfl (Nat.le_of_ble_eq_true rfl) (Nat.le_of_ble_eq_true rfl) (Nat.le_of_ble_eq_true rfl) (x_ri ?_)
    cases H
    exact x_iret 73 dX9_through_73 .int rfl rfl (Nat.le_of_ble_eq_true rfl) (Nat.le_of_ble_eq_true rfl) ⟨rfl, rfl⟩
  · replace H := x_ifn c12 H
    refine x_aload_n 57 0 dX9_through_57 rfl rfl ?_
    refine x_iload 58 4 dX9_through_58 rfl ?_
    obtain ⟨h17, H⟩ := x_ckp H
    obtain ⟨r19, M18, e20, H⟩ := x_bd_of H
    refine x_callV 60 212 9 [(.int v4)] [] dX9_through_60 (ct_X9_noTen l e20) lk_1314 lk_1316 lk_59 (by decide) h17 lk_94 lk_1317 ⟨cn_X9_noTen, (by decide), by decide⟩ rfl (Nat.le_of_ble_eq_true rfl) (Nat.le_of_ble_eq_true rfl) (Nat.le_of_ble_eq_true rfl) (x_ri ?_)
    refine x_goto 63 73 dX9_through_63 (by decide) ?_
    cases H
    exact x_iret 73 dX9_through_73 .int rfl rfl (Nat.le_of_ble_eq_true rfl) (Nat.le_of_ble_eq_true rfl) ⟨rfl, rfl⟩

def f_X9_through_48 (v0 : Nat) (v1 : Int32) (v2 : Int32) (v3 : Int32) (M : XM) : Option (Int32 × XM) :=
  f_X9_through_52 v0 v1 v2 v3 (-6 : Int32) M
set_option maxRecDepth 20000 in
set_option maxHeartbeats 4000000 in
theorem t_X9_through_48 (l : Launch) {v0 : Nat} {v1 : Int32} {v2 : Int32} {v3 : Int32} {M : XM} {q : Int32 × XM} (H : f_X9_through_48 v0 v1 v2 v3 M = some q) : AW l m_X9_through 4 0 0 (x_Ri q) 0 0 48 [some (.ref v0), some (.int v1), some (.int v2), some (.int v3), none] [] M := by
  unfold f_X9_through_48 at H
  refine x_bipush 48 (-6 : Int32) dX9_through_48 (by decide) ?_
  refine x_istore 50 4 [some (.ref v0), some (.int v1), some (.int v2), some (.int v3), some (.int (-6 : Int32))] dX9_through_50 rfl (Nat.le_of_ble_eq_true rfl) rfl ?_
  exact t_X9_through_52 l H

def f_X9_through_c42 (v0 : Nat) (v1 : Int32) (v2 : Int32) (v3 : Int32) (v4 : Int32) (s0 : Int32) (M : XM) : Option (Int32 × XM) :=
  if s0 = 0 then (f_X9_through_48 v0 v1 v2 v3 M) else (f_X9_through_52 v0 v1 v2 v3 v4 M)
set_option maxRecDepth 20000 in
set_option maxHeartbeats 4000000 in
theorem t_X9_through_c42 (l : Launch) {v0 : Nat} {v1 : Int32} {v2 : Int32} {v3 : Int32} {v4 : Int32} {s0 : Int32} {M : XM} {q : Int32 × XM} (H : f_X9_through_c42 v0 v1 v2 v3 v4 s0 M = some q) : AW l m_X9_through 4 0 0 (x_Ri q) 0 0 45 [some (.ref v0), some (.int v1), some (.int v2), some (.int v3), some (.int v4)] [(.int s0)] M := by
  unfold f_X9_through_c42 at H
  refine x_if_ne 45 52 dX9_through_45 (by decide) (fun c25 => ?_) (fun c25 => ?_)
  · replace H := x_ifn c25 H
    exact t_X9_through_52 l H
  · replace H := x_ifp c25 H
    exact x_wk (le_s (le_s (le_s (le_s (le_n le_0))))) (t_X9_through_48 l H)

def f_X9_through_26 (v0 : Nat) (v1 : Int32) (v2 : Int32) (v3 : Int32) (s0 : Int32) (M : XM) : Option (Int32 × XM) :=
  if s0 = 0 then (if (40 : Int32) < v3 then (f_X9_through_48 v0 v1 v2 v3 M) else (if x_tag M v0 = 9 + 10 then (x_bd (f_X9_areSeconds v0 v2 v3 M) (f_X9_through_c42 v0 v1 v2 v3 s0)) else none)) else (f_X9_through_52 v0 v1 v2 v3 s0 M)
set_option maxRecDepth 20000 in
set_option maxHeartbeats 4000000 in
theorem t_X9_through_26 (l : Launch) {v0 : Nat} {v1 : Int32} {v2 : Int32} {v3 : Int32} {s0 : Int32} {M : XM} {q : Int32 × XM} (H : f_X9_through_26 v0 v1 v2 v3 s0 M = some q) : AW l m_X9_through 4 0 0 (x_Ri q) 0 0 26 [some (.ref v0), some (.int v1), some (.int v2), some (.int v3), none] [(.int s0)] M := by
  unfold f_X9_through_26 at H
  refine x_istore 26 4 [some (.ref v0), some (.int v1), some (.int v2), some (.int v3), some (.int s0)] dX9_through_26 rfl (Nat.le_of_ble_eq_true rfl) rfl ?_
  refine x_iload 28 4 dX9_through_28 rfl ?_
  refine x_if_ne 30 52 dX9_through_30 (by decide) (fun c10 => ?_) (fun c10 => ?_)
  · replace H := x_ifn c10 H
    exact t_X9_through_52 l H
  · replace H := x_ifp c10 H
    refine x_iload_n 33 3 dX9_through_33 rfl rfl ?_
    refine x_bipush 34 (40 : Int32) dX9_through_34 (by decide) ?_
    refine x_icmp_gt 36 48 dX9_through_36 (by decide) (fun c11 => ?_) (fun c11 => ?_)
    · replace H := x_ifp c11 H
      exact x_wk (le_s (le_s (le_s (le_s (le_n le_0))))) (t_X9_through_48 l H)
    · replace H := x_ifn c11 H
      refine x_aload_n 39 0 dX9_through_39 rfl rfl ?_
      refine x_iload_n 40 2 dX9_through_40 rfl rfl ?_
      refine x_iload_n 41 3 dX9_through_41 rfl rfl ?_
      obtain ⟨h21, H⟩ := x_ckp H
      obtain ⟨r23, M22, e24, H⟩ := x_bd_of H
      refine x_callV 42 209 9 [(.int v2), (.int v3)] [] dX9_through_42 (ct_X9_areSeconds l e24) lk_1294 lk_1296 lk_55 (by decide) h21 lk_94 lk_1297 ⟨cn_X9_areSeconds, (by decide), by decide⟩ rfl (Nat.le_of_ble_eq_true rfl) (Nat.le_of_ble_eq_true rfl) (Nat.le_of_ble_eq_true rfl) (x_ri ?_)
      exact t_X9_through_c42 l H

def f_X9_through_c23 (v0 : Nat) (v1 : Int32) (v2 : Int32) (v3 : Int32) (s0 : Int32) (M : XM) : Option (Int32 × XM) :=
  f_X9_through_26 v0 v1 v2 v3 s0 M
set_option maxRecDepth 20000 in
set_option maxHeartbeats 4000000 in
theorem t_X9_through_c23 (l : Launch) {v0 : Nat} {v1 : Int32} {v2 : Int32} {v3 : Int32} {s0 : Int32} {M : XM} {q : Int32 × XM} (H : f_X9_through_c23 v0 v1 v2 v3 s0 M = some q) : AW l m_X9_through 4 0 0 (x_Ri q) 0 0 26 [some (.ref v0), some (.int v1), some (.int v2), some (.int v3), none] [(.int s0)] M := by
  unfold f_X9_through_c23 at H
  exact t_X9_through_26 l H

def f_X9_through_20 (v0 : Nat) (v1 : Int32) (v2 : Int32) (v3 : Int32) (M : XM) : Option (Int32 × XM) :=
  if x_tag M v0 = 9 + 10 then (x_bd (f_X9_bars v0 v2 v3 M) (f_X9_through_c23 v0 v1 v2 v3)) else none
set_option maxRecDepth 20000 in
set_option maxHeartbeats 4000000 in
theorem t_X9_through_20 (l : Launch) {v0 : Nat} {v1 : Int32} {v2 : Int32} {v3 : Int32} {M : XM} {q : Int32 × XM} (H : f_X9_through_20 v0 v1 v2 v3 M = some q) : AW l m_X9_through 4 0 0 (x_Ri q) 0 0 20 [some (.ref v0), some (.int v1), some (.int v2), some (.int v3), none] [] M := by
  unfold f_X9_through_20 at H
  refine x_aload_n 20 0 dX9_through_20 rfl rfl ?_
  refine x_iload_n 21 2 dX9_through_21 rfl rfl ?_
  refine x_iload_n 22 3 dX9_through_22 rfl rfl ?_
  obtain ⟨h6, H⟩ := x_ckp H
  obtain ⟨r8, M7, e9, H⟩ := x_bd_of H
  refine x_callV 23 206 9 [(.int v2), (.int v3)] [] dX9_through_23 (ct_X9_bars l e9) lk_1290 lk_1292 lk_54 (by decide) h6 lk_94 lk_1293 ⟨cn_X9_bars, (by decide), by decide⟩ rfl (Nat.le_of_ble_eq_true rfl) (Nat.le_of_ble_eq_true rfl) (Nat.le_of_ble_eq_true rfl) (x_ri ?_)
  exact t_X9_through_c23 l H

def f_X9_through_c10 (v0 : Nat) (v1 : Int32) (v2 : Int32) (v3 : Int32) (s0 : Int32) (M : XM) : Option (Int32 × XM) :=
  if s0 = 0 then (f_X9_through_26 v0 v1 v2 v3 (-1 : Int32) M) else (f_X9_through_20 v0 v1 v2 v3 M)
set_option maxRecDepth 20000 in
set_option maxHeartbeats 4000000 in
theorem t_X9_through_c10 (l : Launch) {v0 : Nat} {v1 : Int32} {v2 : Int32} {v3 : Int32} {s0 : Int32} {M : XM} {q : Int32 × XM} (H : f_X9_through_c10 v0 v1 v2 v3 s0 M = some q) : AW l m_X9_through 4 0 0 (x_Ri q) 0 0 13 [some (.ref v0), some (.int v1), some (.int v2), some (.int v3), none] [(.int s0)] M := by
  unfold f_X9_through_c10 at H
  refine x_if_ne 13 20 dX9_through_13 (by decide) (fun c30 => ?_) (fun c30 => ?_)
  · replace H := x_ifn c30 H
    exact t_X9_through_20 l H
  · replace H := x_ifp c30 H
    refine x_iconst 16 (-1 : Int32) dX9_through_16 (by decide) ?_
    refine x_goto 17 26 dX9_through_17 (by decide) ?_
    exact t_X9_through_26 l H

def f_X9_through_c2 (v0 : Nat) (v1 : Int32) (v2 : Int32) (v3 : Int32) (s0 : Int32) (M : XM) : Option (Int32 × XM) :=
  if s0 = 0 then (f_X9_through_20 v0 v1 v2 v3 M) else (if x_tag M v0 = 9 + 10 then (x_bd (f_X9_isCounter v0 v1 M) (f_X9_through_c10 v0 v1 v2 v3)) else none)
set_option maxRecDepth 20000 in
set_option maxHeartbeats 4000000 in
theorem t_X9_through_c2 (l : Launch) {v0 : Nat} {v1 : Int32} {v2 : Int32} {v3 : Int32} {s0 : Int32} {M : XM} {q : Int32 × XM} (H : f_X9_through_c2 v0 v1 v2 v3 s0 M = some q) : AW l m_X9_through 4 0 0 (x_Ri q) 0 0 5 [some (.ref v0), some (.int v1), some (.int v2), some (.int v3), none] [(.int s0)] M := by
  unfold f_X9_through_c2 at H
  refine x_if_eq 5 20 dX9_through_5 (by decide) (fun c5 => ?_) (fun c5 => ?_)
  · replace H := x_ifp c5 H
    exact t_X9_through_20 l H
  · replace H := x_ifn c5 H
    refine x_aload_n 8 0 dX9_through_8 rfl rfl ?_
    refine x_iload_n 9 1 dX9_through_9 rfl rfl ?_
    obtain ⟨h26, H⟩ := x_ckp H
    obtain ⟨r28, M27, e29, H⟩ := x_bd_of H
    refine x_callV 10 104 9 [(.int v1)] [] dX9_through_10 (ct_X9_isCounter l e29) lk_1185 lk_1187 lk_38 (by decide) h26 lk_94 lk_1188 ⟨cn_X9_isCounter, (by decide), by decide⟩ rfl (Nat.le_of_ble_eq_true rfl) (Nat.le_of_ble_eq_true rfl) (Nat.le_of_ble_eq_true rfl) (x_ri ?_)
    exact t_X9_through_c10 l H

def f_X9_through (v0 : Nat) (v1 : Int32) (v2 : Int32) (v3 : Int32) (M : XM) : Option (Int32 × XM) :=
  if x_tag M v0 = 9 + 10 then (x_bd (f_X9_isShelf v0 v2 M) (f_X9_through_c2 v0 v1 v2 v3)) else none
set_option maxRecDepth 20000 in
set_option maxHeartbeats 4000000 in
theorem t_X9_through (l : Launch) {v0 : Nat} {v1 : Int32} {v2 : Int32} {v3 : Int32} {M : XM} {q : Int32 × XM} (H : f_X9_through v0 v1 v2 v3 M = some q) : AW l m_X9_through 4 0 0 (x_Ri q) 0 0 0 [some (.ref v0), some (.int v1), some (.int v2), some (.int v3), none] [] M := by
  unfold f_X9_through at H
  refine x_aload_n 0 0 dX9_through_0 rfl rfl ?_
  refine x_iload_n 1 2 dX9_through_1 rfl rfl ?_
  obtain ⟨h1, H⟩ := x_ckp H
  obtain ⟨r3, M2, e4, H⟩ := x_bd_of H
  refine x_callV 2 96 9 [(.int v2)] [] dX9_through_2 (ct_X9_isShelf l e4) lk_1161 lk_1163 lk_36 (by decide) h1 lk_94 lk_1164 ⟨cn_X9_isShelf, (by decide), by decide⟩ rfl (Nat.le_of_ble_eq_true rfl) (Nat.le_of_ble_eq_true rfl) (Nat.le_of_ble_eq_true rfl) (x_ri ?_)
  exact t_X9_through_c2 l H

theorem ct_X9_through (l : Launch) {v0 : Nat} {v1 : Int32} {v2 : Int32} {v3 : Int32} {M : XM} {q : Int32 × XM} (H : f_X9_through v0 v1 v2 v3 M = some q) : Ct l m_X9_through 4 0 0 [(.ref v0), (.int v1), (.int v2), (.int v3)] M (x_Ri q) := x_met l m_X9_through 4 0 0 [(.ref v0), (.int v1), (.int v2), (.int v3)] M (x_Ri q) _ rfl rfl (Nat.le_of_ble_eq_true rfl) (t_X9_through l H)
abbrev m_X9_isDull : XU := (yX9_isDull, cX9_isDull, 2, (some .boolean))
theorem cn_X9_isDull : m_X9_isDull.1.cls ≠ "java/lang/invoke/MethodHandle" ∧ m_X9_isDull.1.cls ≠ "java/lang/invoke/VarHandle" ∧ (parseMethodDescriptor m_X9_isDull.1.desc).map (fun q => q.parameters.length) = some 1 := by decide +kernel
def f_X9_isDull (v0 : Nat) (v1 : Int32) (M : XM) : Option (Int32 × XM) :=
  if x_tag M v0 = 9 + 10 then (if x_at M (x_r M v0 10) 1 v1 = true then (if (x_i M (x_r M v0 10) v1.toNatClampNeg) = (4 : Int32) then (some ((1 : Int32), M)) else (if (x_i M (x_r M v0 10) v1.toNatClampNeg) = (6 : Int32) then (some ((1 : Int32), M)) else (some ((0 : Int32), M)))) else none) else none
set_option maxRecDepth 20000 in
set_option maxHeartbeats 4000000 in
theorem t_X9_isDull (l : Launch) {v0 : Nat} {v1 : Int32} {M : XM} {q : Int32 × XM} (H : f_X9_isDull v0 v1 M = some q) : AW l m_X9_isDull 1 0 0 (x_Ri q) 0 0 0 [some (.ref v0), some (.int v1)] [] M := by
  unfold f_X9_isDull at H
  refine x_aload_n 0 0 dX9_isDull_0 rfl rfl ?_
  obtain ⟨h1, H⟩ := x_ckp H
  refine x_getf 1 32 9 10 (.ref (x_r M v0 10)) dX9_isDull_1 lk_1040 (by decide) (by decide) rfl (fun _ => rfl) h1 ?_
  refine x_iload_n 4 1 dX9_isDull_4 rfl rfl ?_
  obtain ⟨h2, H⟩ := x_ckp H
  refine x_iald 5 dX9_isDull_5 h2 ?_
  refine x_iconst 6 (4 : Int32) dX9_isDull_6 (by decide) ?_
  refine x_icmp_eq 7 21 dX9_isDull_7 (by decide) (fun c3 => ?_) (fun c3 => ?_)
  · replace H := x_ifp c3 H
    refine x_iconst 21 (1 : Int32) dX9_isDull_21 (by decide) ?_
    refine x_goto 22 26 dX9_isDull_22 (by decide) ?_
    cases H
    exact x_iret 26 dX9_isDull_26 .boolean rfl rfl (Nat.le_of_ble_eq_true rfl) (Nat.le_of_ble_eq_true rfl) ⟨rfl, rfl⟩
  · replace H := x_ifn c3 H
    refine x_aload_n 10 0 dX9_isDull_10 rfl rfl ?_
    refine x_getf 11 32 9 10 (.ref (x_r M v0 10)) dX9_isDull_11 lk_1040 (by decide) (by decide) rfl (fun _ => rfl) h1 ?_
    refine x_iload_n 14 1 dX9_isDull_14 rfl rfl ?_
    refine x_iald 15 dX9_isDull_15 h2 ?_
    refine x_bipush 16 (6 : Int32) dX9_isDull_16 (by decide) ?_
    refine x_icmp_ne 18 25 dX9_isDull_18 (by decide) (fun c4 => ?_) (fun c4 => ?_)
    · replace H := x_ifn c4 H
      refine x_iconst 25 (0 : Int32) dX9_isDull_25 (by decide) ?_
      cases H
      exact x_iret 26 dX9_isDull_26 .boolean rfl rfl (Nat.le_of_ble_eq_true rfl) (Nat.le_of_ble_eq_true rfl) ⟨rfl, rfl⟩
    · replace H := x_ifp c4 H
      refine x_iconst 21 (1 : Int32) dX9_isDull_21 (by decide) ?_
      refine x_goto 22 26 dX9_isDull_22 (by decide) ?_
      cases H
      exact x_iret 26 dX9_isDull_26 .boolean rfl rfl (Nat.le_of_ble_eq_true rfl) (Nat.le_of_ble_eq_true rfl) ⟨rfl, rfl⟩

theorem ct_X9_isDull (l : Launch) {v0 : Nat} {v1 : Int32} {M : XM} {q : Int32 × XM} (H : f_X9_isDull v0 v1 M = some q) : Ct l m_X9_isDull 1 0 0 [(.ref v0), (.int v1)] M (x_Ri q) := x_met l m_X9_isDull 1 0 0 [(.ref v0), (.int v1)] M (x_Ri q) _ rfl rfl (Nat.le_of_ble_eq_true rfl) (t_X9_isDull l H)
theorem lk_1341 : Cond.code yX9_isDull cX9_isDull 2 (some .boolean) ∈ x_TB := x_tb (k := 1341) (by decide +kernel) rfl
theorem lk_1338 : Cond.methodLink RX9 218 yX9_isDull ∈ x_TB := x_tb (k := 1338) (by decide +kernel) rfl
theorem lk_64 : Cond.selects RX9 yX9_isDull yX9_isDull ∈ x_TB := x_tb (k := 64) (by decide +kernel) rfl
theorem lk_1340 : Cond.instanceMethod yX9_isDull ∈ x_TB := x_tb (k := 1340) (by decide +kernel) rfl
abbrev m_X9_turnsOf : XU := (yX9_turnsOf, cX9_turnsOf, 2, (some .int))
theorem cn_X9_turnsOf : m_X9_turnsOf.1.cls ≠ "java/lang/invoke/MethodHandle" ∧ m_X9_turnsOf.1.cls ≠ "java/lang/invoke/VarHandle" ∧ (parseMethodDescriptor m_X9_turnsOf.1.desc).map (fun q => q.parameters.length) = some 1 := by decide +kernel
def f_X9_turnsOf_c2 (v0 : Nat) (v1 : Int32) (s0 : Int32) (M : XM) : Option (Int32 × XM) :=
  if s0 = 0 then (some ((1 : Int32), M)) else (if x_tag M v0 = 9 + 10 then (if x_at M (x_r M v0 11) 1 v1 = true then (some (((x_i M (x_r M v0 11) v1.toNatClampNeg) + (1 : Int32)), M)) else none) else none)
set_option maxRecDepth 20000 in
set_option maxHeartbeats 4000000 in
theorem t_X9_turnsOf_c2 (l : Launch) {v0 : Nat} {v1 : Int32} {s0 : Int32} {M : XM} {q : Int32 × XM} (H : f_X9_turnsOf_c2 v0 v1 s0 M = some q) : AW l m_X9_turnsOf 2 0 0 (x_Ri q) 0 0 5 [some (.ref v0), some (.int v1)] [(.int s0)] M := by
  unfold f_X9_turnsOf_c2 at H
  refine x_if_eq 5 19 dX9_turnsOf_5 (by decide) (fun c5 => ?_) (fun c5 => ?_)
  · replace H := x_ifp c5 H
    refine x_iconst 19 (1 : Int32) dX9_turnsOf_19 (by decide) ?_
    cases H
    exact x_iret 20 dX9_turnsOf_20 .int rfl rfl (Nat.le_of_ble_eq_true rfl) (Nat.le_of_ble_eq_true rfl) ⟨rfl, rfl⟩
  · replace H := x_ifn c5 H
    refine x_aload_n 8 0 dX9_turnsOf_8 rfl rfl ?_
    obtain ⟨h6, H⟩ := x_ckp H
    refine x_getf 9 35 9 11 (.ref (x_r M v0 11)) dX9_turnsOf_9 lk_1041 (by decide) (by decide) rfl (fun _ => rfl) h6 ?_
    refine x_iload_n 12 1 dX9_turnsOf_12 rfl rfl ?_
    obtain ⟨h7, H⟩ := x_ckp H
    refine x_iald 13 dX9_turnsOf_13 h7 ?_
    refine x_iconst 14 (1 : Int32) dX9_turnsOf_14 (by decide) ?_
    refine x_iadd 15 dX9_turnsOf_15 ?_
    refine x_goto 16 20 dX9_turnsOf_16 (by decide) ?_
    cases H
    exact x_iret 20 dX9_turnsOf_20 .int rfl rfl (Nat.le_of_ble_eq_true rfl) (Nat.le_of_ble_eq_true rfl) ⟨rfl, rfl⟩

def f_X9_turnsOf (v0 : Nat) (v1 : Int32) (M : XM) : Option (Int32 × XM) :=
  if x_tag M v0 = 9 + 10 then (x_bd (f_X9_isDull v0 v1 M) (f_X9_turnsOf_c2 v0 v1)) else none
set_option maxRecDepth 20000 in
set_option maxHeartbeats 4000000 in
theorem t_X9_turnsOf (l : Launch) {v0 : Nat} {v1 : Int32} {M : XM} {q : Int32 × XM} (H : f_X9_turnsOf v0 v1 M = some q) : AW l m_X9_turnsOf 2 0 0 (x_Ri q) 0 0 0 [some (.ref v0), some (.int v1)] [] M := by
  unfold f_X9_turnsOf at H
  refine x_aload_n 0 0 dX9_turnsOf_0 rfl rfl ?_
  refine x_iload_n 1 1 dX9_turnsOf_1 rfl rfl ?_
  obtain ⟨h1, H⟩ := x_ckp H
  obtain ⟨r3, M2, e4, H⟩ := x_bd_of H
  refine x_callV 2 218 9 [(.int v1)] [] dX9_turnsOf_2 (ct_X9_isDull l e4) lk_1338 lk_1340 lk_64 (by decide) h1 lk_94 lk_1341 ⟨cn_X9_isDull, (by decide), by decide⟩ rfl (Nat.le_of_ble_eq_true rfl) (Nat.le_of_ble_eq_true rfl) (Nat.le_of_ble_eq_true rfl) (x_ri ?_)
  exact t_X9_turnsOf_c2 l H

theorem ct_X9_turnsOf (l : Launch) {v0 : Nat} {v1 : Int32} {M : XM} {q : Int32 × XM} (H : f_X9_turnsOf v0 v1 M = some q) : Ct l m_X9_turnsOf 2 0 0 [(.ref v0), (.int v1)] M (x_Ri q) := x_met l m_X9_turnsOf 2 0 0 [(.ref v0), (.int v1)] M (x_Ri q) _ rfl rfl (Nat.le_of_ble_eq_true rfl) (t_X9_turnsOf l H)
theorem lk_1337 : Cond.code yX9_turnsOf cX9_turnsOf 2 (some .int) ∈ x_TB := x_tb (k := 1337) (by decide +kernel) rfl
theorem lk_1334 : Cond.methodLink RX9 221 yX9_turnsOf ∈ x_TB := x_tb (k := 1334) (by decide +kernel) rfl
theorem lk_63 : Cond.selects RX9 yX9_turnsOf yX9_turnsOf ∈ x_TB := x_tb (k := 63) (by decide +kernel) rfl
theorem lk_1336 : Cond.instanceMethod yX9_turnsOf ∈ x_TB := x_tb (k := 1336) (by decide +kernel) rfl
theorem lk_1342 : Cond.constant RX9 224 (1000000 : Int32) ∈ x_TB := x_tb (k := 1342) (by decide +kernel) rfl
abbrev m_X9_lays : XU := (yX9_lays, cX9_lays, 3, none)
theorem cn_X9_lays : m_X9_lays.1.cls ≠ "java/lang/invoke/MethodHandle" ∧ m_X9_lays.1.cls ≠ "java/lang/invoke/VarHandle" ∧ (parseMethodDescriptor m_X9_lays.1.desc).map (fun q => q.parameters.length) = some 1 := by decide +kernel
def f_X9_lays_c43 (s1 : Int32) (s2 : Int32) (s3 : Nat) (s0 : Int32) (M : XM) : Option XM :=
  if s0 = 0 then none else if x_at M s3 1 (s2 + (s1 - s1 / s0 * s0)) = true then (x_lt (x_wi M s3 (s2 + (s1 - s1 / s0 * s0)).toNatClampNeg (1000000 : Int32)) (fun M10 => some M10)) else none
set_option maxRecDepth 20000 in
set_option maxHeartbeats 4000000 in
theorem t_X9_lays_c43 (l : Launch) {s1 : Int32} {s2 : Int32} {s3 : Nat} {s0 : Int32} {M : XM} {q : XM} (H : f_X9_lays_c43 s1 s2 s3 s0 M = some q) : AW l m_X9_lays 3 0 0 (x_Rv q) 0 0 46 [none, none, none] [(.int s0), (.int s1), (.int s2), (.ref s3)] M := by
  unfold f_X9_lays_c43 at H
  obtain ⟨h8, H⟩ := x_cnz H
  refine x_irem 46 dX9_lays_46 h8 ?_
  refine x_iadd 47 dX9_lays_47 ?_
  refine x_ldc 48 (1000000 : Int32) dX9_lays_48 lk_1342 ?_
  obtain ⟨h9, H⟩ := x_ckp H
  obtain ⟨M10, w11, H⟩ := x_lt_of H
  have h12 : x_at M10 s3 1 (s2 + (s1 - s1 / s0 * s0)) = true := by rw [w11]; exact h9
  have h13 : x_tag M10 s3 = 1 := by rw [w11]; exact (x_at_1 h9)
  refine x_iast' 50 dX9_lays_50 h9 w11 ?_
  cases H
  exact x_vret 51 dX9_lays_51 rfl (Nat.le_of_ble_eq_true rfl) (Nat.le_of_ble_eq_true rfl) ⟨rfl, rfl⟩

def bd_X9_lays_2 (κ2 : Nat → Int32 → Int32 → XM → Option XM) (v0 : Nat) (v1 : Int32) (v2 : Int32) (M : XM) : Option XM :=
  if (2010 : Int32) ≤ v2 then (if x_tag M v0 = 9 + 10 then (if x_at M (x_r M v0 12) 1 v1 = true then (if x_at M (x_r M v0 14) 1 v1 = true then (x_bd (f_X9_turnsOf v0 v1 M) (f_X9_lays_c43 (x_i M (x_r M v0 14) v1.toNatClampNeg) ((10 : Int32) * (x_i M (x_r M v0 12) v1.toNatClampNeg)) (x_r M v0 35))) else none) else none) else none) else (if x_tag M v0 = 9 + 10 then (if x_at M (x_r M v0 35) 1 v2 = true then (x_lt (x_wi M (x_r M v0 35) v2.toNatClampNeg (0 : Int32)) (fun M16 => κ2 v0 v1 (v2 + (1 : Int32)) M16)) else none) else none)
set_option maxRecDepth 20000 in
set_option maxHeartbeats 4000000 in
theorem tb_X9_lays_2 (l : Launch) {κ2 : Nat → Int32 → Int32 → XM → Option XM} {v0 : Nat} {v1 : Int32} {v2 : Int32} {M : XM} {q : XM} (hκ2 : ∀ (v0 : Nat) (v1 : Int32) (v2 : Int32) (M : XM), κ2 v0 v1 v2 M = some q → AW l m_X9_lays 3 0 0 (x_Rv q) 0 0 2 [some (.ref v0), some (.int v1), some (.int v2)] [] M) (H : bd_X9_lays_2 κ2 v0 v1 v2 M = some q) : AW l m_X9_lays 3 0 0 (x_Rv q) 0 0 2 [some (.ref v0), some (.int v1), some (.int v2)] [] M := by
  unfold bd_X9_lays_2 at H
  refine x_iload_n 2 2 dX9_lays_2 rfl rfl ?_
  refine x_sipush 3 (2010 : Int32) dX9_lays_3 (by decide) ?_
  refine x_icmp_ge 6 22 dX9_lays_6 (by decide) (fun c1 => ?_) (fun c1 => ?_)
  · replace H := x_ifp c1 H
    refine x_aload_n 22 0 dX9_lays_22 rfl rfl ?_
    obtain ⟨h2, H⟩ := x_ckp H
    refine x_getf 23 81 9 35 (.ref (x_r M v0 35)) dX9_lays_23 lk_1065 (by decide) (by decide) rfl (fun _ => rfl) h2 ?_
    refine x_bipush 26 (10 : Int32) dX9_lays_26 (by decide) ?_
    refine x_aload_n 28 0 dX9_lays_28 rfl rfl ?_
    refine x_getf 29 38 9 12 (.ref (x_r M v0 12)) dX9_lays_29 lk_1042 (by decide) (by decide) rfl (fun _ => rfl) h2 ?_
    refine x_iload_n 32 1 dX9_lays_32 rfl rfl ?_
    obtain ⟨h3, H⟩ := x_ckp H
    refine x_iald 33 dX9_lays_33 h3 ?_
    refine x_imul 34 dX9_lays_34 ?_
    refine x_aload_n 35 0 dX9_lays_35 rfl rfl ?_
    refine x_getf 36 44 9 14 (.ref (x_r M v0 14)) dX9_lays_36 lk_1044 (by decide) (by decide) rfl (fun _ => rfl) h2 ?_
    refine x_iload_n 39 1 dX9_lays_39 rfl rfl ?_
    obtain ⟨h4, H⟩ := x_ckp H
    refine x_iald 40 dX9_lays_40 h4 ?_
    refine x_aload_n 41 0 dX9_lays_41 rfl rfl ?_
    refine x_iload_n 42 1 dX9_lays_42 rfl rfl ?_
    obtain ⟨r6, M5, e7, H⟩ := x_bd_of H
    refine x_callV 43 221 9 [(.int v1)] [(.int (x_i M (x_r M v0 14) v1.toNatClampNeg)), (.int ((10 : Int32) * (x_i M (x_r M v0 12) v1.toNatClampNeg))), (.ref (x_r M v0 35))] dX9_lays_43 (ct_X9_turnsOf l e7) lk_1334 lk_1336 lk_63 (by decide) h2 lk_94 lk_1337 ⟨cn_X9_turnsOf, (by decide), by decide⟩ rfl (Nat.le_of_ble_eq_true rfl) (Nat.le_of_ble_eq_true rfl) (Nat.le_of_ble_eq_true rfl) (x_ri ?_)
    exact x_wk (le_n (le_n (le_n le_0))) (t_X9_lays_c43 l H)
  · replace H := x_ifn c1 H
    refine x_aload_n 9 0 dX9_lays_9 rfl rfl ?_
    obtain ⟨h14, H⟩ := x_ckp H
    refine x_getf 10 81 9 35 (.ref (x_r M v0 35)) dX9_lays_10 lk_1065 (by decide) (by decide) rfl (fun _ => rfl) h14 ?_
    refine x_iload_n 13 2 dX9_lays_13 rfl rfl ?_
    refine x_iconst 14 (0 : Int32) dX9_lays_14 (by decide) ?_
    obtain ⟨h15, H⟩ := x_ckp H
    obtain ⟨M16, w17, H⟩ := x_lt_of H
    have h18 : x_tag M16 v0 = 9 + 10 := by rw [w17]; exact h14
    have h19 : x_at M16 (x_r M v0 35) 1 v2 = true := by rw [w17]; exact h15
    have h20 : x_tag M16 (x_r M v0 35) = 1 := by rw [w17]; exact (x_at_1 h15)
    refine x_iast' 15 dX9_lays_15 h15 w17 ?_
    refine x_iinc 16 2 (v2 + (1 : Int32)) [some (.ref v0), some (.int v1), some (.int (v2 + (1 : Int32)))] dX9_lays_16 rfl (congrArg (fun z : Int32 => v2 + z) (show Int32.ofInt (1) = (1 : Int32) by decide)) rfl (Nat.le_of_ble_eq_true rfl) rfl ?_
    refine x_goto 19 2 dX9_lays_19 (by decide) ?_
    exact hκ2 _ _ _ _ H

def lp_X9_lays_2 (n : Nat) : Nat → Int32 → Int32 → XM → Option XM := x_rec (fun _ _ _ _ => none) (bd_X9_lays_2) n
theorem t_X9_lays_2 (l : Launch) {q : XM} : ∀ (n : Nat) (v0 : Nat) (v1 : Int32) (v2 : Int32) (M : XM), lp_X9_lays_2 n v0 v1 v2 M = some q → AW l m_X9_lays 3 0 0 (x_Rv q) 0 0 2 [some (.ref v0), some (.int v1), some (.int v2)] [] M := by
  intro n
  induction n with
  | zero => intro v0 v1 v2 M H; cases H
  | succ n ih => intro v0 v1 v2 M H; exact tb_X9_lays_2 l ih H
def f_X9_lays (v0 : Nat) (v1 : Int32) (M : XM) : Option XM :=
  lp_X9_lays_2 x_fuel v0 v1 (0 : Int32) M
set_option maxRecDepth 20000 in
set_option maxHeartbeats 4000000 in
theorem t_X9_lays (l : Launch) {v0 : Nat} {v1 : Int32} {M : XM} {q : XM} (H : f_X9_lays v0 v1 M = some q) : AW l m_X9_lays 3 0 0 (x_Rv q) 0 0 0 [some (.ref v0), some (.int v1), none] [] M := by
  unfold f_X9_lays at H
  refine x_iconst 0 (0 : Int32) dX9_lays_0 (by decide) ?_
  refine x_istore_n 1 2 [some (.ref v0), some (.int v1), some (.int (0 : Int32))] dX9_lays_1 rfl rfl (Nat.le_of_ble_eq_true rfl) rfl ?_
  exact t_X9_lays_2 l _ _ _ _ _ H

theorem ct_X9_lays (l : Launch) {v0 : Nat} {v1 : Int32} {M : XM} {q : XM} (H : f_X9_lays v0 v1 M = some q) : Ct l m_X9_lays 3 0 0 [(.ref v0), (.int v1)] M (x_Rv q) := x_met l m_X9_lays 3 0 0 [(.ref v0), (.int v1)] M (x_Rv q) _ rfl rfl (Nat.le_of_ble_eq_true rfl) (t_X9_lays l H)
