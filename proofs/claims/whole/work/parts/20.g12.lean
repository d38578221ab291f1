theorem lk_1347 : Cond.constantLong RX9 225 (1000 : Int64) ∈ x_TB := x_tb (k := 1347) (by decide +kernel) rfl
abbrev m_X9_flows : XU := (yX9_flows, cX9_flows, 8, none)
theorem cn_X9_flows : m_X9_flows.1.cls ≠ "java/lang/invoke/MethodHandle" ∧ m_X9_flows.1.cls ≠ "java/lang/invoke/VarHandle" ∧ (parseMethodDescriptor m_X9_flows.1.desc).map (fun q => q.parameters.length) = some 1 := by decide +kernel
def bd_X9_flows_207 (κ207 : Nat → Int32 → XM → Option XM) (v0 : Nat) (v3 : Int32) (M : XM) : Option XM :=
  if x_tag M v0 = 9 + 10 then (if (((10 : Int32) * (x_i M v0 1)) + (10 : Int32)) ≤ v3 then (some M) else (if x_at M (x_r M v0 36) 1 v3 = true then (if x_at M (x_r M v0 35) 1 v3 = true then (x_lt (x_wi M (x_r M v0 35) v3.toNatClampNeg (x_i M (x_r M v0 36) v3.toNatClampNeg)) (fun M14 => κ207 v0 (v3 + (1 : Int32)) M14)) else none) else none)) else none
set_option maxRecDepth 20000 in
set_option maxHeartbeats 4000000 in
theorem tb_X9_flows_207 (l : Launch) {κ207 : Nat → Int32 → XM → Option XM} {v0 : Nat} {v3 : Int32} {M : XM} {q : XM} (hκ207 : ∀ (v0 : Nat) (v3 : Int32) (M : XM), κ207 v0 v3 M = some q → AW l m_X9_flows 3 0 0 (x_Rv q) 0 0 207 [some (.ref v0), none, none, some (.int v3), none, none, none, none] [] M) (H : bd_X9_flows_207 κ207 v0 v3 M = some q) : AW l m_X9_flows 3 0 0 (x_Rv q) 0 0 207 [some (.ref v0), none, none, some (.int v3), none, none, none, none] [] M := by
  unfold bd_X9_flows_207 at H
  refine x_iload_n 207 3 dX9_flows_207 rfl rfl ?_
  refine x_bipush 208 (10 : Int32) dX9_flows_208 (by decide) ?_
  refine x_aload_n 210 0 dX9_flows_210 rfl rfl ?_
  obtain ⟨h10, H⟩ := x_ckp H
  refine x_getf 211 7 9 1 (.int (x_i M v0 1)) dX9_flows_211 lk_1031 (by decide) (by decide) rfl (fun _ => rfl) h10 ?_
  refine x_imul 214 dX9_flows_214 ?_
  refine x_bipush 215 (10 : Int32) dX9_flows_215 (by decide) ?_
  refine x_iadd 217 dX9_flows_217 ?_
  refine x_icmp_ge 218 239 dX9_flows_218 (by decide) (fun c11 => ?_) (fun c11 => ?_)
  · replace H := x_ifp c11 H
    cases H
    exact x_vret 239 dX9_flows_239 rfl (Nat.le_of_ble_eq_true rfl) (Nat.le_of_ble_eq_true rfl) ⟨rfl, rfl⟩
  · replace H := x_ifn c11 H
    refine x_aload_n 221 0 dX9_flows_221 rfl rfl ?_
    refine x_getf 222 81 9 35 (.ref (x_r M v0 35)) dX9_flows_222 lk_1065 (by decide) (by decide) rfl (fun _ => rfl) h10 ?_
    refine x_iload_n 225 3 dX9_flows_225 rfl rfl ?_
    refine x_aload_n 226 0 dX9_flows_226 rfl rfl ?_
    refine x_getf 227 84 9 36 (.ref (x_r M v0 36)) dX9_flows_227 lk_1066 (by decide) (by decide) rfl (fun _ => rfl) h10 ?_
    refine x_iload_n 230 3 dX9_flows_230 rfl rfl ?_
    obtain ⟨h12, H⟩ := x_ckp H
    refine x_iald 231 dX9_flows_231 h12 ?_
    obtain ⟨h13, H⟩ := x_ckp H
    obtain ⟨M14, w15, H⟩ := x_lt_of H
    have h16 : x_tag M14 v0 = 9 + 10 := by rw [w15]; exact h10
    have h17 : x_at M14 (x_r M v0 36) 1 v3 = true := by rw [w15]; exact h12
    have h18 : x_tag M14 (x_r M v0 36) = 1 := by rw [w15]; exact (x_at_1 h12)
    have h19 : x_at M14 (x_r M v0 35) 1 v3 = true := by rw [w15]; exact h13
    have h20 : x_tag M14 (x_r M v0 35) = 1 := by rw [w15]; exact (x_at_1 h13)
    refine x_iast' 232 dX9_flows_232 h13 w15 ?_
    refine x_iinc 233 3 (v3 + (1 : Int32)) [some (.ref v0), none, none, some (.int (v3 + (1 : Int32))), none, none, none, none] dX9_flows_233 rfl (congrArg (fun z : Int32 => v3 + z) (show Int32.ofInt (1) = (1 : Int32) by decide)) rfl (Nat.le_of_ble_eq_true rfl) rfl ?_
    refine x_goto 236 207 dX9_flows_236 (by decide) ?_
    exact hκ207 _ _ _ H

def lp_X9_flows_207 (n : Nat) : Nat → Int32 → XM → Option XM := x_rec (fun _ _ _ => none) (bd_X9_flows_207) n
theorem t_X9_flows_207 (l : Launch) {q : XM} : ∀ (n : Nat) (v0 : Nat) (v3 : Int32) (M : XM), lp_X9_flows_207 n v0 v3 M = some q → AW l m_X9_flows 3 0 0 (x_Rv q) 0 0 207 [some (.ref v0), none, none, some (.int v3), none, none, none, none] [] M := by
  intro n
  induction n with
  | zero => intro v0 v3 M H; cases H
  | succ n ih => intro v0 v3 M H; exact tb_X9_flows_207 l ih H
def bd_X9_flows_163 (κ163 : Nat → Int32 → Int32 → XM → Option XM) (v0 : Nat) (v2 : Int32) (v3 : Int32) (M : XM) : Option XM :=
  if v2 ≤ v3 then (lp_X9_flows_207 x_fuel v0 (0 : Int32) M) else (if x_tag M v0 = 9 + 10 then (if x_at M (x_r M v0 36) 1 (((10 : Int32) * (x_i M v0 1)) + v3) = true then (if x_at M (x_r M v0 35) 1 (((10 : Int32) * (x_i M v0 1)) + v3) = true then (x_lt (x_wi M (x_r M v0 36) (((10 : Int32) * (x_i M v0 1)) + v3).toNatClampNeg ((x_i M (x_r M v0 36) (((10 : Int32) * (x_i M v0 1)) + v3).toNatClampNeg) + (x_i M (x_r M v0 35) (((10 : Int32) * (x_i M v0 1)) + v3).toNatClampNeg))) (fun M24 => κ163 v0 v2 (v3 + (1 : Int32)) M24)) else none) else none) else none)
set_option maxRecDepth 20000 in
set_option maxHeartbeats 4000000 in
theorem tb_X9_flows_163 (l : Launch) {κ163 : Nat → Int32 → Int32 → XM → Option XM} {v0 : Nat} {v2 : Int32} {v3 : Int32} {M : XM} {q : XM} (hκ163 : ∀ (v0 : Nat) (v2 : Int32) (v3 : Int32) (M : XM), κ163 v0 v2 v3 M = some q → AW l m_X9_flows 3 0 0 (x_Rv q) 0 0 163 [some (.ref v0), none, some (.int v2), some (.int v3), none, none, none, none] [] M) (H : bd_X9_flows_163 κ163 v0 v2 v3 M = some q) : AW l m_X9_flows 3 0 0 (x_Rv q) 0 0 163 [some (.ref v0), none, some (.int v2), some (.int v3), none, none, none, none] [] M := by
  unfold bd_X9_flows_163 at H
  refine x_iload_n 163 3 dX9_flows_163 rfl rfl ?_
  refine x_iload_n 164 2 dX9_flows_164 rfl rfl ?_
  refine x_icmp_ge 165 205 dX9_flows_165 (by decide) (fun c9 => ?_) (fun c9 => ?_)
  · replace H := x_ifp c9 H
    refine x_iconst 205 (0 : Int32) dX9_flows_205 (by decide) ?_
    refine x_istore_n 206 3 [some (.ref v0), none, some (.int v2), some (.int (0 : Int32)), none, none, none, none] dX9_flows_206 rfl rfl (Nat.le_of_ble_eq_true rfl) rfl ?_
    exact x_wk (le_s (le_s (le_n (le_s (le_s (le_s (le_s (le_s le_0)))))))) (t_X9_flows_207 l _ _ _ _ H)
  · replace H := x_ifn c9 H
    refine x_aload_n 168 0 dX9_flows_168 rfl rfl ?_
    obtain ⟨h21, H⟩ := x_ckp H
    refine x_getf 169 84 9 36 (.ref (x_r M v0 36)) dX9_flows_169 lk_1066 (by decide) (by decide) rfl (fun _ => rfl) h21 ?_
    refine x_bipush 172 (10 : Int32) dX9_flows_172 (by decide) ?_
    refine x_aload_n 174 0 dX9_flows_174 rfl rfl ?_
    refine x_getf 175 7 9 1 (.int (x_i M v0 1)) dX9_flows_175 lk_1031 (by decide) (by decide) rfl (fun _ => rfl) h21 ?_
    refine x_imul 178 dX9_flows_178 ?_
    refine x_iload_n 179 3 dX9_flows_179 rfl rfl ?_
    refine x_iadd 180 dX9_flows_180 ?_
    refine x_dup2 181 dX9_flows_181 rfl rfl ?_
    obtain ⟨h22, H⟩ := x_ckp H
    refine x_iald 182 dX9_flows_182 h22 ?_
    refine x_aload_n 183 0 dX9_flows_183 rfl rfl ?_
    refine x_getf 184 81 9 35 (.ref (x_r M v0 35)) dX9_flows_184 lk_1065 (by decide) (by decide) rfl (fun _ => rfl) h21 ?_
    refine x_bipush 187 (10 : Int32) dX9_flows_187 (by decide) ?_
    refine x_aload_n 189 0 dX9_flows_189 rfl rfl ?_
    refine x_getf 190 7 9 1 (.int (x_i M v0 1)) dX9_flows_190 lk_1031 (by decide) (by decide) rfl (fun _ => rfl) h21 ?_
    refine x_imul 193 dX9_flows_193 ?_
    refine x_iload_n 194 3 dX9_flows_194 rfl rfl ?_
    refine x_iadd 195 dX9_flows_195 ?_
    obtain ⟨h23, H⟩ := x_ckp H
    refine x_iald 196 dX9_flows_196 h23 ?_
    refine x_iadd 197 dX9_flows_197 ?_
    obtain ⟨M24, w25, H⟩ := x_lt_of H
    have h26 : x_tag M24 v0 = 9 + 10 := by rw [w25]; exact h21
    have h27 : x_at M24 (x_r M v0 36) 1 (((10 : Int32) * (x_i M v0 1)) + v3) = true := by rw [w25]; exact h22
    have h28 : x_tag M24 (x_r M v0 36) = 1 := by rw [w25]; exact (x_at_1 h22)
    have h29 : x_at M24 (x_r M v0 35) 1 (((10 : Int32) * (x_i M v0 1)) + v3) = true := by rw [w25]; exact h23
    have h30 : x_tag M24 (x_r M v0 35) = 1 := by rw [w25]; exact (x_at_1 h23)
    refine x_iast' 198 dX9_flows_198 h22 w25 ?_
    refine x_iinc 199 3 (v3 + (1 : Int32)) [some (.ref v0), none, some (.int v2), some (.int (v3 + (1 : Int32))), none, none, none, none] dX9_flows_199 rfl (congrArg (fun z : Int32 => v3 + z) (show Int32.ofInt (1) = (1 : Int32) by decide)) rfl (Nat.le_of_ble_eq_true rfl) rfl ?_
    refine x_goto 202 163 dX9_flows_202 (by decide) ?_
    exact hκ163 _ _ _ _ H

def lp_X9_flows_163 (n : Nat) : Nat → Int32 → Int32 → XM → Option XM := x_rec (fun _ _ _ _ => none) (bd_X9_flows_163) n
theorem t_X9_flows_163 (l : Launch) {q : XM} : ∀ (n : Nat) (v0 : Nat) (v2 : Int32) (v3 : Int32) (M : XM), lp_X9_flows_163 n v0 v2 v3 M = some q → AW l m_X9_flows 3 0 0 (x_Rv q) 0 0 163 [some (.ref v0), none, some (.int v2), some (.int v3), none, none, none, none] [] M := by
  intro n
  induction n with
  | zero => intro v0 v2 v3 M H; cases H
  | succ n ih => intro v0 v2 v3 M H; exact tb_X9_flows_163 l ih H
def f_X9_flows_149 (κ37 : Nat → Int32 → Int32 → Int32 → XM → Option XM) (κ48 : Nat → Int32 → Int32 → Int32 → Int32 → XM → Option XM) (v0 : Nat) (v1 : Int32) (v2 : Int32) (v3 : Int32) (v4 : Int32) (M : XM) : Option XM :=
  κ48 v0 v1 v2 v3 (v4 + (1 : Int32)) M
set_option maxRecDepth 20000 in
set_option maxHeartbeats 4000000 in
theorem t_X9_flows_149 (l : Launch) {κ37 : Nat → Int32 → Int32 → Int32 → XM → Option XM} {κ48 : Nat → Int32 → Int32 → Int32 → Int32 → XM → Option XM} {v0 : Nat} {v1 : Int32} {v2 : Int32} {v3 : Int32} {v4 : Int32} {M : XM} {q : XM} (hκ37 : ∀ (v0 : Nat) (v1 : Int32) (v2 : Int32) (v3 : Int32) (M : XM), κ37 v0 v1 v2 v3 M = some q → AW l m_X9_flows 3 0 0 (x_Rv q) 0 0 37 [some (.ref v0), some (.int v1), some (.int v2), some (.int v3), none, none, none, none] [] M) (hκ48 : ∀ (v0 : Nat) (v1 : Int32) (v2 : Int32) (v3 : Int32) (v4 : Int32) (M : XM), κ48 v0 v1 v2 v3 v4 M = some q → AW l m_X9_flows 3 0 0 (x_Rv q) 0 0 48 [some (.ref v0), some (.int v1), some (.int v2), some (.int v3), some (.int v4), none, none, none] [] M) (H : f_X9_flows_149 κ37 κ48 v0 v1 v2 v3 v4 M = some q) : AW l m_X9_flows 3 0 0 (x_Rv q) 0 0 149 [some (.ref v0), some (.int v1), some (.int v2), some (.int v3), some (.int v4), none, none, none] [] M := by
  unfold f_X9_flows_149 at H
  refine x_iinc 149 4 (v4 + (1 : Int32)) [some (.ref v0), some (.int v1), some (.int v2), some (.int v3), some (.int (v4 + (1 : Int32))), none, none, none] dX9_flows_149 rfl (congrArg (fun z : Int32 => v4 + z) (show Int32.ofInt (1) = (1 : Int32) by decide)) rfl (Nat.le_of_ble_eq_true rfl) rfl ?_
  refine x_goto 152 48 dX9_flows_152 (by decide) ?_
  exact hκ48 _ _ _ _ _ _ H

def f_X9_flows_c113 (κ37 : Nat → Int32 → Int32 → Int32 → XM → Option XM) (κ48 : Nat → Int32 → Int32 → Int32 → Int32 → XM → Option XM) (v0 : Nat) (v1 : Int32) (v2 : Int32) (v3 : Int32) (v4 : Int32) (v5 : Int32) (v6 : Int32) (v7 : Int32) (s1 : Int32) (s2 : Nat) (s0 : Int32) (M : XM) : Option XM :=
  if x_at M s2 1 ((s1 * s0) + v7) = true then (x_lt (x_wi M s2 ((s1 * s0) + v7).toNatClampNeg ((x_i M s2 ((s1 * s0) + v7).toNatClampNeg) + v6)) (fun M40 => if x_tag M40 v0 = 9 + 10 then (if x_at M40 (x_r M40 v0 36) 1 ((((10 : Int32) * v3) + (10 : Int32)) + v4) = true then (x_lt (x_wi M40 (x_r M40 v0 36) ((((10 : Int32) * v3) + (10 : Int32)) + v4).toNatClampNeg ((x_i M40 (x_r M40 v0 36) ((((10 : Int32) * v3) + (10 : Int32)) + v4).toNatClampNeg) + (v5 - v6))) (fun M46 => f_X9_flows_149 κ37 κ48 v0 v1 v2 v3 v4 M46)) else none) else none)) else none
set_option maxRecDepth 20000 in
set_option maxHeartbeats 4000000 in
theorem t_X9_flows_c113 (l : Launch) {κ37 : Nat → Int32 → Int32 → Int32 → XM → Option XM} {κ48 : Nat → Int32 → Int32 → Int32 → Int32 → XM → Option XM} {v0 : Nat} {v1 : Int32} {v2 : Int32} {v3 : Int32} {v4 : Int32} {v5 : Int32} {v6 : Int32} {v7 : Int32} {s1 : Int32} {s2 : Nat} {s0 : Int32} {M : XM} {q : XM} (hκ37 : ∀ (v0 : Nat) (v1 : Int32) (v2 : Int32) (v3 : Int32) (M : XM), κ37 v0 v1 v2 v3 M = some q → AW l m_X9_flows 3 0 0 (x_Rv q) 0 0 37 [some (.ref v0), some (.int v1), some (.int v2), some (.int v3), none, none, none, none] [] M) (hκ48 : ∀ (v0 : Nat) (v1 : Int32) (v2 : Int32) (v3 : Int32) (v4 : Int32) (M : XM), κ48 v0 v1 v2 v3 v4 M = some q → AW l m_X9_flows 3 0 0 (x_Rv q) 0 0 48 [some (.ref v0), some (.int v1), some (.int v2), some (.int v3), some (.int v4), none, none, none] [] M) (H : f_X9_flows_c113 κ37 κ48 v0 v1 v2 v3 v4 v5 v6 v7 s1 s2 s0 M = some q) : AW l m_X9_flows 3 0 0 (x_Rv q) 0 0 116 [some (.ref v0), some (.int v1), some (.int v2), some (.int v3), some (.int v4), some (.int v5), some (.int v6), some (.int v7)] [(.int s0), (.int s1), (.ref s2)] M := by
  unfold f_X9_flows_c113 at H
  refine x_imul 116 dX9_flows_116 ?_
  refine x_iload 117 7 dX9_flows_117 rfl ?_
  refine x_iadd 119 dX9_flows_119 ?_
  refine x_dup2 120 dX9_flows_120 rfl rfl ?_
  obtain ⟨h39, H⟩ := x_ckp H
  refine x_iald 121 dX9_flows_121 h39 ?_
  refine x_iload 122 6 dX9_flows_122 rfl ?_
  refine x_iadd 124 dX9_flows_124 ?_
  obtain ⟨M40, w41, H⟩ := x_lt_of H
  have h42 : x_at M40 s2 1 ((s1 * s0) + v7) = true := by rw [w41]; exact h39
  have h43 : x_tag M40 s2 = 1 := by rw [w41]; exact (x_at_1 h39)
  refine x_iast' 125 dX9_flows_125 h39 w41 ?_
  refine x_aload_n 126 0 dX9_flows_126 rfl rfl ?_
  obtain ⟨h44, H⟩ := x_ckp H
  refine x_getf 127 84 9 36 (.ref (x_r M40 v0 36)) dX9_flows_127 lk_1066 (by decide) (by decide) rfl (fun _ => rfl) h44 ?_
  refine x_bipush 130 (10 : Int32) dX9_flows_130 (by decide) ?_
  refine x_iload_n 132 3 dX9_flows_132 rfl rfl ?_
  refine x_imul 133 dX9_flows_133 ?_
  refine x_bipush 134 (10 : Int32) dX9_flows_134 (by decide) ?_
  refine x_iadd 136 dX9_flows_136 ?_
  refine x_iload 137 4 dX9_flows_137 rfl ?_
  refine x_iadd 139 dX9_flows_139 ?_
  refine x_dup2 140 dX9_flows_140 rfl rfl ?_
  obtain ⟨h45, H⟩ := x_ckp H
  refine x_iald 141 dX9_flows_141 h45 ?_
  refine x_iload 142 5 dX9_flows_142 rfl ?_
  refine x_iload 144 6 dX9_flows_144 rfl ?_
  refine x_isub 146 dX9_flows_146 ?_
  refine x_iadd 147 dX9_flows_147 ?_
  obtain ⟨M46, w47, H⟩ := x_lt_of H
  have h48 : x_at M46 s2 1 ((s1 * s0) + v7) = true := by rw [w47]; exact h42
  have h49 : x_tag M46 s2 = 1 := by rw [w47]; exact h43
  have h50 : x_tag M46 v0 = 9 + 10 := by rw [w47]; exact h44
  have h51 : x_at M46 (x_r M40 v0 36) 1 ((((10 : Int32) * v3) + (10 : Int32)) + v4) = true := by rw [w47]; exact h45
  have h52 : x_tag M46 (x_r M40 v0 36) = 1 := by rw [w47]; exact (x_at_1 h45)
  refine x_iast' 148 dX9_flows_148 h45 w47 ?_
  exact x_wk (le_s (le_s (le_s (le_s (le_s (le_n (le_n (le_n le_0)))))))) (t_X9_flows_149 l hκ37 hκ48 H)

def bd_X9_flows_48 (κ37 : Nat → Int32 → Int32 → Int32 → XM → Option XM) (κ48 : Nat → Int32 → Int32 → Int32 → Int32 → XM → Option XM) (v0 : Nat) (v1 : Int32) (v2 : Int32) (v3 : Int32) (v4 : Int32) (M : XM) : Option XM :=
  if v2 ≤ v4 then (κ37 v0 v1 v2 (v3 + (1 : Int32)) M) else (if x_tag M v0 = 9 + 10 then (if x_at M (x_r M v0 35) 1 (((10 : Int32) * v3) + v4) = true then (if (x_i M (x_r M v0 35) (((10 : Int32) * v3) + v4).toNatClampNeg) = 0 then (f_X9_flows_149 κ37 κ48 v0 v1 v2 v3 v4 M) else (if v2 = 0 then none else x_bd (f_X9_left v0 v1 v3 (v4 + (1 : Int32)) M) (f_X9_flows_c113 κ37 κ48 v0 v1 v2 v3 v4 (x_i M (x_r M v0 35) (((10 : Int32) * v3) + v4).toNatClampNeg) (((((x_i M (x_r M v0 35) (((10 : Int32) * v3) + v4).toNatClampNeg).toInt64) * ((x_i M v0 3).toInt64)) / (1000 : Int64)).toInt32) ((v4 + (1 : Int32)) - (v4 + (1 : Int32)) / v2 * v2) (10 : Int32) (x_r M v0 36)))) else none) else none)
set_option maxRecDepth 20000 in
set_option maxHeartbeats 4000000 in
theorem tb_X9_flows_48 (l : Launch) {κ37 : Nat → Int32 → Int32 → Int32 → XM → Option XM} {κ48 : Nat → Int32 → Int32 → Int32 → Int32 → XM → Option XM} {v0 : Nat} {v1 : Int32} {v2 : Int32} {v3 : Int32} {v4 : Int32} {M : XM} {q : XM} (hκ37 : ∀ (v0 : Nat) (v1 : Int32) (v2 : Int32) (v3 : Int32) (M : XM), κ37 v0 v1 v2 v3 M = some q → AW l m_X9_flows 3 0 0 (x_Rv q) 0 0 37 [some (.ref v0), some (.int v1), some (.int v2), some (.int v3), none, none, none, none] [] M) (hκ48 : ∀ (v0 : Nat) (v1 : Int32) (v2 : Int32) (v3 : Int32) (v4 : Int32) (M : XM), κ48 v0 v1 v2 v3 v4 M = some q → AW l m_X9_flows 3 0 0 (x_Rv q) 0 0 48 [some (.ref v0), some (.int v1), some (.int v2), some (.int v3), some (.int v4), none, none, none] [] M) (H : bd_X9_flows_48 κ37 κ48 v0 v1 v2 v3 v4 M = some q) : AW l m_X9_flows 3 0 0 (x_Rv q) 0 0 48 [some (.ref v0), some (.int v1), some (.int v2), some (.int v3), some (.int v4), none, none, none] [] M := by
  unfold bd_X9_flows_48 at H
  refine x_iload 48 4 dX9_flows_48 rfl ?_
  refine x_iload_n 50 2 dX9_flows_50 rfl rfl ?_
  refine x_icmp_ge 51 155 dX9_flows_51 (by decide) (fun c31 => ?_) (fun c31 => ?_)
  · replace H := x_ifp c31 H
    refine x_iinc 155 3 (v3 + (1 : Int32)) [some (.ref v0), some (.int v1), some (.int v2), some (.int (v3 + (1 : Int32))), some (.int v4), none, none, none] dX9_flows_155 rfl (congrArg (fun z : Int32 => v3 + z) (show Int32.ofInt (1) = (1 : Int32) by decide)) rfl (Nat.le_of_ble_eq_true rfl) rfl ?_
    refine x_goto 158 37 dX9_flows_158 (by decide) ?_
    exact x_wk (le_s (le_s (le_s (le_s (le_n (le_s (le_s (le_s le_0)))))))) (hκ37 _ _ _ _ _ H)
  · replace H := x_ifn c31 H
    refine x_aload_n 54 0 dX9_flows_54 rfl rfl ?_
    obtain ⟨h32, H⟩ := x_ckp H
    refine x_getf 55 81 9 35 (.ref (x_r M v0 35)) dX9_flows_55 lk_1065 (by decide) (by decide) rfl (fun _ => rfl) h32 ?_
    refine x_bipush 58 (10 : Int32) dX9_flows_58 (by decide) ?_
    refine x_iload_n 60 3 dX9_flows_60 rfl rfl ?_
    refine x_imul 61 dX9_flows_61 ?_
    refine x_iload 62 4 dX9_flows_62 rfl ?_
    refine x_iadd 64 dX9_flows_64 ?_
    obtain ⟨h33, H⟩ := x_ckp H
    refine x_iald 65 dX9_flows_65 h33 ?_
    refine x_istore 66 5 [some (.ref v0), some (.int v1), some (.int v2), some (.int v3), some (.int v4), some (.int (x_i M (x_r M v0 35) (((10 : Int32) * v3) + v4).toNatClampNeg)), none, none] dX9_flows_66 rfl (Nat.le_of_ble_eq_true rfl) rfl ?_
    refine x_iload 68 5 dX9_flows_68 rfl ?_
    refine x_if_ne 70 76 dX9_flows_70 (by decide) (fun c34 => ?_) (fun c34 => ?_)
    · replace H := x_ifn c34 H
      refine x_iload 76 5 dX9_flows_76 rfl ?_
      refine x_i2l 78 dX9_flows_78 ?_
      refine x_aload_n 79 0 dX9_flows_79 rfl rfl ?_
      refine x_getf 80 16 9 3 (.int (x_i M v0 3)) dX9_flows_80 lk_1033 (by decide) (by decide) rfl (fun _ => rfl) h32 ?_
      refine x_i2l 83 dX9_flows_83 ?_
      refine x_lmul 84 dX9_flows_84 ?_
      refine x_ldc2 85 (1000 : Int64) dX9_flows_85 lk_1347 ?_
      refine x_ldiv 88 dX9_flows_88 (by decide) ?_
      refine x_l2i 89 dX9_flows_89 ?_
      refine x_istore 90 6 [some (.ref v0), some (.int v1), some (.int v2), some (.int v3), some (.int v4), some (.int (x_i M (x_r M v0 35) (((10 : Int32) * v3) + v4).toNatClampNeg)), some (.int (((((x_i M (x_r M v0 35) (((10 : Int32) * v3) + v4).toNatClampNeg).toInt64) * ((x_i M v0 3).toInt64)) / (1000 : Int64)).toInt32)), none] dX9_flows_90 rfl (Nat.le_of_ble_eq_true rfl) rfl ?_
      refine x_iload 92 4 dX9_flows_92 rfl ?_
      refine x_iconst 94 (1 : Int32) dX9_flows_94 (by decide) ?_
      refine x_iadd 95 dX9_flows_95 ?_
      refine x_iload_n 96 2 dX9_flows_96 rfl rfl ?_
      obtain ⟨h35, H⟩ := x_cnz H
      refine x_irem 97 dX9_flows_97 h35 ?_
      refine x_istore 98 7 [some (.ref v0), some (.int v1), some (.int v2), some (.int v3), some (.int v4), some (.int (x_i M (x_r M v0 35) (((10 : Int32) * v3) + v4).toNatClampNeg)), some (.int (((((x_i M (x_r M v0 35) (((10 : Int32) * v3) + v4).toNatClampNeg).toInt64) * ((x_i M v0 3).toInt64)) / (1000 : Int64)).toInt32)), some (.int ((v4 + (1 : Int32)) - (v4 + (1 : Int32)) / v2 * v2))] dX9_flows_98 rfl (Nat.le_of_ble_eq_true rfl) rfl ?_
      refine x_aload_n 100 0 dX9_flows_100 rfl rfl ?_
      refine x_getf 101 84 9 36 (.ref (x_r M v0 36)) dX9_flows_101 lk_1066 (by decide) (by decide) rfl (fun _ => rfl) h32 ?_
      refine x_bipush 104 (10 : Int32) dX9_flows_104 (by decide) ?_
      refine x_aload_n 106 0 dX9_flows_106 rfl rfl ?_
      refine x_iload_n 107 1 dX9_flows_107 rfl rfl ?_
      refine x_iload_n 108 3 dX9_flows_108 rfl rfl ?_
      refine x_iload 109 4 dX9_flows_109 rfl ?_
      refine x_iconst 111 (1 : Int32) dX9_flows_111 (by decide) ?_
      refine x_iadd 112 dX9_flows_112 ?_
      obtain ⟨r37, M36, e38, H⟩ := x_bd_of H
      refine x_callV 113 183 9 [(.int v1), (.int v3), (.int (v4 + (1 : Int32)))] [(.int (10 : Int32)), (.ref (x_r M v0 36))] dX9_flows_113 (ct_X9_left l e38) lk_1273 lk_1275 lk_53 (by decide) h32 lk_94 lk_1276 ⟨cn_X9_left, (by decide), by decide⟩ rfl (Nat.le_of_ble_eq_true rfl) (Nat.le_of_ble_eq_true rfl) (Nat.le_of_ble_eq_true rfl) (x_ri ?_)
      exact t_X9_flows_c113 l hκ37 hκ48 H
    · replace H := x_ifp c34 H
      refine x_goto 73 149 dX9_flows_73 (by decide) ?_
      exact x_wk (le_s (le_s (le_s (le_s (le_s (le_n (le_s (le_s le_0)))))))) (t_X9_flows_149 l hκ37 hκ48 H)

def lp_X9_flows_48 (κ37 : Nat → Int32 → Int32 → Int32 → XM → Option XM) (n : Nat) : Nat → Int32 → Int32 → Int32 → Int32 → XM → Option XM := x_rec (fun _ _ _ _ _ _ => none) (bd_X9_flows_48 κ37) n
theorem t_X9_flows_48 (l : Launch) {κ37 : Nat → Int32 → Int32 → Int32 → XM → Option XM} {q : XM} (hκ37 : ∀ (v0 : Nat) (v1 : Int32) (v2 : Int32) (v3 : Int32) (M : XM), κ37 v0 v1 v2 v3 M = some q → AW l m_X9_flows 3 0 0 (x_Rv q) 0 0 37 [some (.ref v0), some (.int v1), some (.int v2), some (.int v3), none, none, none, none] [] M) : ∀ (n : Nat) (v0 : Nat) (v1 : Int32) (v2 : Int32) (v3 : Int32) (v4 : Int32) (M : XM), lp_X9_flows_48 κ37 n v0 v1 v2 v3 v4 M = some q → AW l m_X9_flows 3 0 0 (x_Rv q) 0 0 48 [some (.ref v0), some (.int v1), some (.int v2), some (.int v3), some (.int v4), none, none, none] [] M := by
  intro n
  induction n with
  | zero => intro v0 v1 v2 v3 v4 M H; cases H
  | succ n ih => intro v0 v1 v2 v3 v4 M H; exact tb_X9_flows_48 l hκ37 ih H
def bd_X9_flows_37 (κ37 : Nat → Int32 → Int32 → Int32 → XM → Option XM) (v0 : Nat) (v1 : Int32) (v2 : Int32) (v3 : Int32) (M : XM) : Option XM :=
  if x_tag M v0 = 9 + 10 then (if (x_i M v0 1) ≤ v3 then (lp_X9_flows_163 x_fuel v0 v2 (0 : Int32) M) else (lp_X9_flows_48 κ37 x_fuel v0 v1 v2 v3 (0 : Int32) M)) else none
set_option maxRecDepth 20000 in
set_option maxHeartbeats 4000000 in
theorem tb_X9_flows_37 (l : Launch) {κ37 : Nat → Int32 → Int32 → Int32 → XM → Option XM} {v0 : Nat} {v1 : Int32} {v2 : Int32} {v3 : Int32} {M : XM} {q : XM} (hκ37 : ∀ (v0 : Nat) (v1 : Int32) (v2 : Int32) (v3 : Int32) (M : XM), κ37 v0 v1 v2 v3 M = some q → AW l m_X9_flows 3 0 0 (x_Rv q) 0 0 37 [some (.ref v0), some (.int v1), some (.int v2), some (.int v3), none, none, none, none] [] M) (H : bd_X9_flows_37 κ37 v0 v1 v2 v3 M = some q) : AW l m_X9_flows 3 0 0 (x_Rv q) 0 0 37 [some (.ref v0), some (.int v1), some (.int v2), some (.int v3), none, none, none, none] [] M := by
  unfold bd_X9_flows_37 at H
  refine x_iload_n 37 3 dX9_flows_37 rfl rfl ?_
  refine x_aload_n 38 0 dX9_flows_38 rfl rfl ?_
  obtain ⟨h7, H⟩ := x_ckp H
  refine x_getf 39 7 9 1 (.int (x_i M v0 1)) dX9_flows_39 lk_1031 (by decide) (by decide) rfl (fun _ => rfl) h7 ?_
  refine x_icmp_ge 42 161 dX9_flows_42 (by decide) (fun c8 => ?_) (fun c8 => ?_)
  · replace H := x_ifp c8 H
    refine x_iconst 161 (0 : Int32) dX9_flows_161 (by decide) ?_
    refine x_istore_n 162 3 [some (.ref v0), some (.int v1), some (.int v2), some (.int (0 : Int32)), none, none, none, none] dX9_flows_162 rfl rfl (Nat.le_of_ble_eq_true rfl) rfl ?_
    exact x_wk (le_s (le_n (le_s (le_s (le_s (le_s (le_s (le_s le_0)))))))) (t_X9_flows_163 l _ _ _ _ _ H)
  · replace H := x_ifn c8 H
    refine x_iconst 45 (0 : Int32) dX9_flows_45 (by decide) ?_
    refine x_istore 46 4 [some (.ref v0), some (.int v1), some (.int v2), some (.int v3), some (.int (0 : Int32)), none, none, none] dX9_flows_46 rfl (Nat.le_of_ble_eq_true rfl) rfl ?_
    exact t_X9_flows_48 l hκ37 _ _ _ _ _ _ _ H

def lp_X9_flows_37 (n : Nat) : Nat → Int32 → Int32 → Int32 → XM → Option XM := x_rec (fun _ _ _ _ _ => none) (bd_X9_flows_37) n
theorem t_X9_flows_37 (l : Launch) {q : XM} : ∀ (n : Nat) (v0 : Nat) (v1 : Int32) (v2 : Int32) (v3 : Int32) (M : XM), lp_X9_flows_37 n v0 v1 v2 v3 M = some q → AW l m_X9_flows 3 0 0 (x_Rv q) 0 0 37 [some (.ref v0), some (.int v1), some (.int v2), some (.int v3), none, none, none, none] [] M := by
  intro n
  induction n with
  | zero => intro v0 v1 v2 v3 M H; cases H
  | succ n ih => intro v0 v1 v2 v3 M H; exact tb_X9_flows_37 l ih H
def bd_X9_flows_8 (κ8 : Nat → Int32 → Int32 → Int32 → XM → Option XM) (v0 : Nat) (v1 : Int32) (v2 : Int32) (v3 : Int32) (M : XM) : Option XM :=
  if x_tag M v0 = 9 + 10 then (if (((10 : Int32) * (x_i M v0 1)) + (10 : Int32)) ≤ v3 then (lp_X9_flows_37 x_fuel v0 v1 v2 (0 : Int32) M) else (if x_at M (x_r M v0 36) 1 v3 = true then (x_lt (x_wi M (x_r M v0 36) v3.toNatClampNeg (0 : Int32)) (fun M54 => κ8 v0 v1 v2 (v3 + (1 : Int32)) M54)) else none)) else none
set_option maxRecDepth 20000 in
set_option maxHeartbeats 4000000 in
theorem tb_X9_flows_8 (l : Launch) {κ8 : Nat → Int32 → Int32 → Int32 → XM → Option XM} {v0 : Nat} {v1 : Int32} {v2 : Int32} {v3 : Int32} {M : XM} {q : XM} (hκ8 : ∀ (v0 : Nat) (v1 : Int32) (v2 : Int32) (v3 : Int32) (M : XM), κ8 v0 v1 v2 v3 M = some q → AW l m_X9_flows 3 0 0 (x_Rv q) 0 0 8 [some (.ref v0), some (.int v1), some (.int v2), some (.int v3), none, none, none, none] [] M) (H : bd_X9_flows_8 κ8 v0 v1 v2 v3 M = some q) : AW l m_X9_flows 3 0 0 (x_Rv q) 0 0 8 [some (.ref v0), some (.int v1), some (.int v2), some (.int v3), none, none, none, none] [] M := by
  unfold bd_X9_flows_8 at H
  refine x_iload_n 8 3 dX9_flows_8 rfl rfl ?_
  refine x_bipush 9 (10 : Int32) dX9_flows_9 (by decide) ?_
  refine x_aload_n 11 0 dX9_flows_11 rfl rfl ?_
  obtain ⟨h5, H⟩ := x_ckp H
  refine x_getf 12 7 9 1 (.int (x_i M v0 1)) dX9_flows_12 lk_1031 (by decide) (by decide) rfl (fun _ => rfl) h5 ?_
  refine x_imul 15 dX9_flows_15 ?_
  refine x_bipush 16 (10 : Int32) dX9_flows_16 (by decide) ?_
  refine x_iadd 18 dX9_flows_18 ?_
  refine x_icmp_ge 19 35 dX9_flows_19 (by decide) (fun c6 => ?_) (fun c6 => ?_)
  · replace H := x_ifp c6 H
    refine x_iconst 35 (0 : Int32) dX9_flows_35 (by decide) ?_
    refine x_istore_n 36 3 [some (.ref v0), some (.int v1), some (.int v2), some (.int (0 : Int32)), none, none, none, none] dX9_flows_36 rfl rfl (Nat.le_of_ble_eq_true rfl) rfl ?_
    exact t_X9_flows_37 l _ _ _ _ _ _ H
  · replace H := x_ifn c6 H
    refine x_aload_n 22 0 dX9_flows_22 rfl rfl ?_
    refine x_getf 23 84 9 36 (.ref (x_r M v0 36)) dX9_flows_23 lk_1066 (by decide) (by decide) rfl (fun _ => rfl) h5 ?_
    refine x_iload_n 26 3 dX9_flows_26 rfl rfl ?_
    refine x_iconst 27 (0 : Int32) dX9_flows_27 (by decide) ?_
    obtain ⟨h53, H⟩ := x_ckp H
    obtain ⟨M54, w55, H⟩ := x_lt_of H
    have h56 : x_tag M54 v0 = 9 + 10 := by rw [w55]; exact h5
    have h57 : x_at M54 (x_r M v0 36) 1 v3 = true := by rw [w55]; exact h53
    have h58 : x_tag M54 (x_r M v0 36) = 1 := by rw [w55]; exact (x_at_1 h53)
    refine x_iast' 28 dX9_flows_28 h53 w55 ?_
    refine x_iinc 29 3 (v3 + (1 : Int32)) [some (.ref v0), some (.int v1), some (.int v2), some (.int (v3 + (1 : Int32))), none, none, none, none] dX9_flows_29 rfl (congrArg (fun z : Int32 => v3 + z) (show Int32.ofInt (1) = (1 : Int32) by decide)) rfl (Nat.le_of_ble_eq_true rfl) rfl ?_
    refine x_goto 32 8 dX9_flows_32 (by decide) ?_
    exact hκ8 _ _ _ _ _ H

def lp_X9_flows_8 (n : Nat) : Nat → Int32 → Int32 → Int32 → XM → Option XM := x_rec (fun _ _ _ _ _ => none) (bd_X9_flows_8) n
theorem t_X9_flows_8 (l : Launch) {q : XM} : ∀ (n : Nat) (v0 : Nat) (v1 : Int32) (v2 : Int32) (v3 : Int32) (M : XM), lp_X9_flows_8 n v0 v1 v2 v3 M = some q → AW l m_X9_flows 3 0 0 (x_Rv q) 0 0 8 [some (.ref v0), some (.int v1), some (.int v2), some (.int v3), none, none, none, none] [] M := by
  intro n
  induction n with
  | zero => intro v0 v1 v2 v3 M H; cases H
  | succ n ih => intro v0 v1 v2 v3 M H; exact tb_X9_flows_8 l ih H
def f_X9_flows_c2 (v0 : Nat) (v1 : Int32) (s0 : Int32) (M : XM) : Option XM :=
  lp_X9_flows_8 x_fuel v0 v1 s0 (0 : Int32) M
set_option maxRecDepth 20000 in
set_option maxHeartbeats 4000000 in
theorem t_X9_flows_c2 (l : Launch) {v0 : Nat} {v1 : Int32} {s0 : Int32} {M : XM} {q : XM} (H : f_X9_flows_c2 v0 v1 s0 M = some q) : AW l m_X9_flows 3 0 0 (x_Rv q) 0 0 5 [some (.ref v0), some (.int v1), none, none, none, none, none, none] [(.int s0)] M := by
  unfold f_X9_flows_c2 at H
  refine x_istore_n 5 2 [some (.ref v0), some (.int v1), some (.int s0), none, none, none, none, none] dX9_flows_5 rfl rfl (Nat.le_of_ble_eq_true rfl) rfl ?_
  refine x_iconst 6 (0 : Int32) dX9_flows_6 (by decide) ?_
  refine x_istore_n 7 3 [some (.ref v0), some (.int v1), some (.int s0), some (.int (0 : Int32)), none, none, none, none] dX9_flows_7 rfl rfl (Nat.le_of_ble_eq_true rfl) rfl ?_
  exact t_X9_flows_8 l _ _ _ _ _ _ H

def f_X9_flows (v0 : Nat) (v1 : Int32) (M : XM) : Option XM :=
  if x_tag M v0 = 9 + 10 then (x_bd (f_X9_turnsOf v0 v1 M) (f_X9_flows_c2 v0 v1)) else none
set_option maxRecDepth 20000 in
set_option maxHeartbeats 4000000 in
theorem t_X9_flows (l : Launch) {v0 : Nat} {v1 : Int32} {M : XM} {q : XM} (H : f_X9_flows v0 v1 M = some q) : AW l m_X9_flows 3 0 0 (x_Rv q) 0 0 0 [some (.ref v0), some (.int v1), none, none, none, none, none, none] [] M := by
  unfold f_X9_flows at H
  refine x_aload_n 0 0 dX9_flows_0 rfl rfl ?_
  refine x_iload_n 1 1 dX9_flows_1 rfl rfl ?_
  obtain ⟨h1, H⟩ := x_ckp H
  obtain ⟨r3, M2, e4, H⟩ := x_bd_of H
  refine x_callV 2 221 9 [(.int v1)] [] dX9_flows_2 (ct_X9_turnsOf l e4) lk_1334 lk_1336 lk_63 (by decide) h1 lk_94 lk_1337 ⟨cn_X9_turnsOf, (by decide), by decide⟩ rfl (Nat.le_of_ble_eq_true rfl) (Nat.le_of_ble_eq_true rfl) (Nat.le_of_ble_eq_true rfl) (x_ri ?_)
  exact t_X9_flows_c2 l H

theorem ct_X9_flows (l : Launch) {v0 : Nat} {v1 : Int32} {M : XM} {q : XM} (H : f_X9_flows v0 v1 M = some q) : Ct l m_X9_flows 3 0 0 [(.ref v0), (.int v1)] M (x_Rv q) := x_met l m_X9_flows 3 0 0 [(.ref v0), (.int v1)] M (x_Rv q) _ rfl rfl (Nat.le_of_ble_eq_true rfl) (t_X9_flows l H)
abbrev m_X9_partsThrough : XU := (yX9_partsThrough, cX9_partsThrough, 3, (some .int))
theorem cn_X9_partsThrough : m_X9_partsThrough.1.cls ≠ "java/lang/invoke/MethodHandle" ∧ m_X9_partsThrough.1.cls ≠ "java/lang/invoke/VarHandle" ∧ (parseMethodDescriptor m_X9_partsThrough.1.desc).map (fun q => q.parameters.length) = some 0 := by decide +kernel
def bd_X9_partsThrough_4 (κ4 : Nat → Int32 → Int32 → XM → Option (Int32 × XM)) (v0 : Nat) (v1 : Int32) (v2 : Int32) (M : XM) : Option (Int32 × XM) :=
  if (10 : Int32) ≤ v2 then (some (v1, M)) else (if x_tag M v0 = 9 + 10 then (if x_at M (x_r M v0 35) 1 (((10 : Int32) * (x_i M v0 1)) + v2) = true then (κ4 v0 (v1 + (x_i M (x_r M v0 35) (((10 : Int32) * (x_i M v0 1)) + v2).toNatClampNeg)) (v2 + (1 : Int32)) M) else none) else none)
set_option maxRecDepth 20000 in
set_option maxHeartbeats 4000000 in
theorem tb_X9_partsThrough_4 (l : Launch) {κ4 : Nat → Int32 → Int32 → XM → Option (Int32 × XM)} {v0 : Nat} {v1 : Int32} {v2 : Int32} {M : XM} {q : Int32 × XM} (hκ4 : ∀ (v0 : Nat) (v1 : Int32) (v2 : Int32) (M : XM), κ4 v0 v1 v2 M = some q → AW l m_X9_partsThrough 1 0 0 (x_Ri q) 0 0 4 [some (.ref v0), some (.int v1), some (.int v2)] [] M) (H : bd_X9_partsThrough_4 κ4 v0 v1 v2 M = some q) : AW l m_X9_partsThrough 1 0 0 (x_Ri q) 0 0 4 [some (.ref v0), some (.int v1), some (.int v2)] [] M := by
  unfold bd_X9_partsThrough_4 at H
  refine x_iload_n 4 2 dX9_partsThrough_4 rfl rfl ?_
  refine x_bipush 5 (10 : Int32) dX9_partsThrough_5 (by decide) ?_
  refine x_icmp_ge 7 33 dX9_partsThrough_7 (by decide) (fun c1 => ?_) (fun c1 => ?_)
  · replace H := x_ifp c1 H
    refine x_iload_n 33 1 dX9_partsThrough_33 rfl rfl ?_
    cases H
    exact x_iret 34 dX9_partsThrough_34 .int rfl rfl (Nat.le_of_ble_eq_true rfl) (Nat.le_of_ble_eq_true rfl) ⟨rfl, rfl⟩
  · replace H := x_ifn c1 H
    refine x_iload_n 10 1 dX9_partsThrough_10 rfl rfl ?_
    refine x_aload_n 11 0 dX9_partsThrough_11 rfl rfl ?_
    obtain ⟨h2, H⟩ := x_ckp H
    refine x_getf 12 81 9 35 (.ref (x_r M v0 35)) dX9_partsThrough_12 lk_1065 (by decide) (by decide) rfl (fun _ => rfl) h2 ?_
    refine x_bipush 15 (10 : Int32) dX9_partsThrough_15 (by decide) ?_
    refine x_aload_n 17 0 dX9_partsThrough_17 rfl rfl ?_
    refine x_getf 18 7 9 1 (.int (x_i M v0 1)) dX9_partsThrough_18 lk_1031 (by decide) (by decide) rfl (fun _ => rfl) h2 ?_
    refine x_imul 21 dX9_partsThrough_21 ?_
    refine x_iload_n 22 2 dX9_partsThrough_22 rfl rfl ?_
    refine x_iadd 23 dX9_partsThrough_23 ?_
    obtain ⟨h3, H⟩ := x_ckp H
    refine x_iald 24 dX9_partsThrough_24 h3 ?_
    refine x_iadd 25 dX9_partsThrough_25 ?_
    refine x_istore_n 26 1 [some (.ref v0), some (.int (v1 + (x_i M (x_r M v0 35) (((10 : Int32) * (x_i M v0 1)) + v2).toNatClampNeg))), some (.int v2)] dX9_partsThrough_26 rfl rfl (Nat.le_of_ble_eq_true rfl) rfl ?_
    refine x_iinc 27 2 (v2 + (1 : Int32)) [some (.ref v0), some (.int (v1 + (x_i M (x_r M v0 35) (((10 : Int32) * (x_i M v0 1)) + v2).toNatClampNeg))), some (.int (v2 + (1 : Int32)))] dX9_partsThrough_27 rfl (congrArg (fun z : Int32 => v2 + z) (show Int32.ofInt (1) = (1 : Int32) by decide)) rfl (Nat.le_of_ble_eq_true rfl) rfl ?_
    refine x_goto 30 4 dX9_partsThrough_30 (by decide) ?_
    exact hκ4 _ _ _ _ H

def lp_X9_partsThrough_4 (n : Nat) : Nat → Int32 → Int32 → XM → Option (Int32 × XM) := x_rec (fun _ _ _ _ => none) (bd_X9_partsThrough_4) n
theorem t_X9_partsThrough_4 (l : Launch) {q : Int32 × XM} : ∀ (n : Nat) (v0 : Nat) (v1 : Int32) (v2 : Int32) (M : XM), lp_X9_partsThrough_4 n v0 v1 v2 M = some q → AW l m_X9_partsThrough 1 0 0 (x_Ri q) 0 0 4 [some (.ref v0), some (.int v1), some (.int v2)] [] M := by
  intro n
  induction n with
  | zero => intro v0 v1 v2 M H; cases H
  | succ n ih => intro v0 v1 v2 M H; exact tb_X9_partsThrough_4 l ih H
def f_X9_partsThrough (v0 : Nat) (M : XM) : Option (Int32 × XM) :=
  lp_X9_partsThrough_4 x_fuel v0 (0 : Int32) (0 : Int32) M
set_option maxRecDepth 20000 in
set_option maxHeartbeats 4000000 in
theorem t_X9_partsThrough (l : Launch) {v0 : Nat} {M : XM} {q : Int32 × XM} (H : f_X9_partsThrough v0 M = some q) : AW l m_X9_partsThrough 1 0 0 (x_Ri q) 0 0 0 [some (.ref v0), none, none] [] M := by
  unfold f_X9_partsThrough at H
  refine x_iconst 0 (0 : Int32) dX9_partsThrough_0 (by decide) ?_
  refine x_istore_n 1 1 [some (.ref v0), some (.int (0 : Int32)), none] dX9_partsThrough_1 rfl rfl (Nat.le_of_ble_eq_true rfl) rfl ?_
  refine x_iconst 2 (0 : Int32) dX9_partsThrough_2 (by decide) ?_
  refine x_istore_n 3 2 [some (.ref v0), some (.int (0 : Int32)), some (.int (0 : Int32))] dX9_partsThrough_3 rfl rfl (Nat.le_of_ble_eq_true rfl) rfl ?_
  exact t_X9_partsThrough_4 l _ _ _ _ _ H

theorem ct_X9_partsThrough (l : Launch) {v0 : Nat} {M : XM} {q : Int32 × XM} (H : f_X9_partsThrough v0 M = some q) : Ct l m_X9_partsThrough 1 0 0 [(.ref v0)] M (x_Ri q) := x_met l m_X9_partsThrough 1 0 0 [(.ref v0)] M (x_Ri q) _ rfl rfl (Nat.le_of_ble_eq_true rfl) (t_X9_partsThrough l H)
theorem lk_1333 : Cond.code yX9_lays cX9_lays 3 none ∈ x_TB := x_tb (k := 1333) (by decide +kernel) rfl
theorem lk_1330 : Cond.methodLink RX9 227 yX9_lays ∈ x_TB := x_tb (k := 1330) (by decide +kernel) rfl
theorem lk_62 : Cond.selects RX9 yX9_lays yX9_lays ∈ x_TB := x_tb (k := 62) (by decide +kernel) rfl
theorem lk_1332 : Cond.instanceMethod yX9_lays ∈ x_TB := x_tb (k := 1332) (by decide +kernel) rfl
theorem lk_1351 : Cond.code yX9_partsThrough cX9_partsThrough 3 (some .int) ∈ x_TB := x_tb (k := 1351) (by decide +kernel) rfl
theorem lk_1348 : Cond.methodLink RX9 233 yX9_partsThrough ∈ x_TB := x_tb (k := 1348) (by decide +kernel) rfl
theorem lk_66 : Cond.selects RX9 yX9_partsThrough yX9_partsThrough ∈ x_TB := x_tb (k := 66) (by decide +kernel) rfl
theorem lk_1350 : Cond.instanceMethod yX9_partsThrough ∈ x_TB := x_tb (k := 1350) (by decide +kernel) rfl
theorem lk_1346 : Cond.code yX9_flows cX9_flows 8 none ∈ x_TB := x_tb (k := 1346) (by decide +kernel) rfl
theorem lk_1343 : Cond.methodLink RX9 230 yX9_flows ∈ x_TB := x_tb (k := 1343) (by decide +kernel) rfl
theorem lk_65 : Cond.selects RX9 yX9_flows yX9_flows ∈ x_TB := x_tb (k := 65) (by decide +kernel) rfl
theorem lk_1345 : Cond.instanceMethod yX9_flows ∈ x_TB := x_tb (k := 1345) (by decide +kernel) rfl
abbrev m_X9_chanceOf : XU := (yX9_chanceOf, cX9_chanceOf, 4, (some .int))
theorem cn_X9_chanceOf : m_X9_chanceOf.1.cls ≠ "java/lang/invoke/MethodHandle" ∧ m_X9_chanceOf.1.cls ≠ "java/lang/invoke/VarHandle" ∧ (parseMethodDescriptor m_X9_chanceOf.1.desc).map (fun q => q.parameters.length) = some 2 := by decide +kernel
def f_X9_chanceOf_c14 (κ7 : Nat → Int32 → Int32 → Int32 → XM → Option (Int32 × XM)) (v0 : Nat) (v1 : Int32) (v2 : Int32) (v3 : Int32) (M : XM) : Option (Int32 × XM) :=
  κ7 v0 v1 v2 (v3 + (1 : Int32)) M
set_option maxRecDepth 20000 in
set_option maxHeartbeats 4000000 in
theorem t_X9_chanceOf_c14 (l : Launch) {κ7 : Nat → Int32 → Int32 → Int32 → XM → Option (Int32 × XM)} {v0 : Nat} {v1 : Int32} {v2 : Int32} {v3 : Int32} {M : XM} {q : Int32 × XM} (hκ7 : ∀ (v0 : Nat) (v1 : Int32) (v2 : Int32) (v3 : Int32) (M : XM), κ7 v0 v1 v2 v3 M = some q → AW l m_X9_chanceOf 4 0 0 (x_Ri q) 0 0 7 [some (.ref v0), some (.int v1), some (.int v2), some (.int v3)] [] M) (H : f_X9_chanceOf_c14 κ7 v0 v1 v2 v3 M = some q) : AW l m_X9_chanceOf 4 0 0 (x_Ri q) 0 0 17 [some (.ref v0), some (.int v1), some (.int v2), some (.int v3)] [] M := by
  unfold f_X9_chanceOf_c14 at H
  refine x_iinc 17 3 (v3 + (1 : Int32)) [some (.ref v0), some (.int v1), some (.int v2), some (.int (v3 + (1 : Int32)))] dX9_chanceOf_17 rfl (congrArg (fun z : Int32 => v3 + z) (show Int32.ofInt (1) = (1 : Int32) by decide)) rfl (Nat.le_of_ble_eq_true rfl) rfl ?_
  refine x_goto 20 7 dX9_chanceOf_20 (by decide) ?_
  exact hκ7 _ _ _ _ _ H

def bd_X9_chanceOf_7 (κ7 : Nat → Int32 → Int32 → Int32 → XM → Option (Int32 × XM)) (v0 : Nat) (v1 : Int32) (v2 : Int32) (v3 : Int32) (M : XM) : Option (Int32 × XM) :=
  if v2 ≤ v3 then (if x_tag M v0 = 9 + 10 then (x_bd (f_X9_partsThrough v0 M) (fun r8 M7 => some (r8, M7))) else none) else (if x_tag M v0 = 9 + 10 then (x_bv (f_X9_flows v0 v1 M) (f_X9_chanceOf_c14 κ7 v0 v1 v2 v3)) else none)
set_option maxRecDepth 20000 in
set_option maxHeartbeats 4000000 in
theorem tb_X9_chanceOf_7 (l : Launch) {κ7 : Nat → Int32 → Int32 → Int32 → XM → Option (Int32 × XM)} {v0 : Nat} {v1 : Int32} {v2 : Int32} {v3 : Int32} {M : XM} {q : Int32 × XM} (hκ7 : ∀ (v0 : Nat) (v1 : Int32) (v2 : Int32) (v3 : Int32) (M : XM), κ7 v0 v1 v2 v3 M = some q → AW l m_X9_chanceOf 4 0 0 (x_Ri q) 0 0 7 [some (.ref v0), some (.int v1), some (.int v2), some (.int v3)] [] M) (H : bd_X9_chanceOf_7 κ7 v0 v1 v2 v3 M = some q) : AW l m_X9_chanceOf 4 0 0 (x_Ri q) 0 0 7 [some (.ref v0), some (.int v1), some (.int v2), some (.int v3)] [] M := by
  unfold bd_X9_chanceOf_7 at H
  refine x_iload_n 7 3 dX9_chanceOf_7 rfl rfl ?_
  refine x_iload_n 8 2 dX9_chanceOf_8 rfl rfl ?_
  refine x_icmp_ge 9 23 dX9_chanceOf_9 (by decide) (fun c5 => ?_) (fun c5 => ?_)
  · replace H := x_ifp c5 H
    refine x_aload_n 23 0 dX9_chanceOf_23 rfl rfl ?_
    obtain ⟨h6, H⟩ := x_ckp H
    obtain ⟨r8, M7, e9, H⟩ := x_bd_of H
    refine x_callV 24 233 9 [] [] dX9_chanceOf_24 (ct_X9_partsThrough l e9) lk_1348 lk_1350 lk_66 (by decide) h6 lk_94 lk_1351 ⟨cn_X9_partsThrough, (by decide), by decide⟩ rfl (Nat.le_of_ble_eq_true rfl) (Nat.le_of_ble_eq_true rfl) (Nat.le_of_ble_eq_true rfl) (x_ri ?_)
    cases H
    exact x_iret 27 dX9_chanceOf_27 .int rfl rfl (Nat.le_of_ble_eq_true rfl) (Nat.le_of_ble_eq_true rfl) ⟨rfl, rfl⟩
  · replace H := x_ifn c5 H
    refine x_aload_n 12 0 dX9_chanceOf_12 rfl rfl ?_
    refine x_iload_n 13 1 dX9_chanceOf_13 rfl rfl ?_
    obtain ⟨h10, H⟩ := x_ckp H
    obtain ⟨M11, e13, H⟩ := x_bv_of H
    refine x_callV 14 230 9 [(.int v1)] [] dX9_chanceOf_14 (ct_X9_flows l e13) lk_1343 lk_1345 lk_65 (by decide) h10 lk_94 lk_1346 ⟨cn_X9_flows, (by decide), by decide⟩ rfl (Nat.le_of_ble_eq_true rfl) (Nat.le_of_ble_eq_true rfl) (Nat.le_of_ble_eq_true rfl) (x_rv ?_)
    exact t_X9_chanceOf_c14 l hκ7 H

def lp_X9_chanceOf_7 (n : Nat) : Nat → Int32 → Int32 → Int32 → XM → Option (Int32 × XM) := x_rec (fun _ _ _ _ _ => none) (bd_X9_chanceOf_7) n
theorem t_X9_chanceOf_7 (l : Launch) {q : Int32 × XM} : ∀ (n : Nat) (v0 : Nat) (v1 : Int32) (v2 : Int32) (v3 : Int32) (M : XM), lp_X9_chanceOf_7 n v0 v1 v2 v3 M = some q → AW l m_X9_chanceOf 4 0 0 (x_Ri q) 0 0 7 [some (.ref v0), some (.int v1), some (.int v2), some (.int v3)] [] M := by
  intro n
  induction n with
  | zero => intro v0 v1 v2 v3 M H; cases H
  | succ n ih => intro v0 v1 v2 v3 M H; exact tb_X9_chanceOf_7 l ih H
def f_X9_chanceOf_c2 (v0 : Nat) (v1 : Int32) (v2 : Int32) (M : XM) : Option (Int32 × XM) :=
  lp_X9_chanceOf_7 x_fuel v0 v1 v2 (0 : Int32) M
set_option maxRecDepth 20000 in
set_option maxHeartbeats 4000000 in
theorem t_X9_chanceOf_c2 (l : Launch) {v0 : Nat} {v1 : Int32} {v2 : Int32} {M : XM} {q : Int32 × XM} (H : f_X9_chanceOf_c2 v0 v1 v2 M = some q) : AW l m_X9_chanceOf 4 0 0 (x_Ri q) 0 0 5 [some (.ref v0), some (.int v1), some (.int v2), none] [] M := by
  unfold f_X9_chanceOf_c2 at H
  refine x_iconst 5 (0 : Int32) dX9_chanceOf_5 (by decide) ?_
  refine x_istore_n 6 3 [some (.ref v0), some (.int v1), some (.int v2), some (.int (0 : Int32))] dX9_chanceOf_6 rfl rfl (Nat.le_of_ble_eq_true rfl) rfl ?_
  exact t_X9_chanceOf_7 l _ _ _ _ _ _ H

def f_X9_chanceOf (v0 : Nat) (v1 : Int32) (v2 : Int32) (M : XM) : Option (Int32 × XM) :=
  if x_tag M v0 = 9 + 10 then (x_bv (f_X9_lays v0 v1 M) (f_X9_chanceOf_c2 v0 v1 v2)) else none
set_option maxRecDepth 20000 in
set_option maxHeartbeats 4000000 in
theorem t_X9_chanceOf (l : Launch) {v0 : Nat} {v1 : Int32} {v2 : Int32} {M : XM} {q : Int32 × XM} (H : f_X9_chanceOf v0 v1 v2 M = some q) : AW l m_X9_chanceOf 4 0 0 (x_Ri q) 0 0 0 [some (.ref v0), some (.int v1), some (.int v2), none] [] M := by
  unfold f_X9_chanceOf at H
  refine x_aload_n 0 0 dX9_chanceOf_0 rfl rfl ?_
  refine x_iload_n 1 1 dX9_chanceOf_1 rfl rfl ?_
  obtain ⟨h1, H⟩ := x_ckp H
  obtain ⟨M2, e4, H⟩ := x_bv_of H
  refine x_callV 2 227 9 [(.int v1)] [] dX9_chanceOf_2 (ct_X9_lays l e4) lk_1330 lk_1332 lk_62 (by decide) h1 lk_94 lk_1333 ⟨cn_X9_lays, (by decide), by decide⟩ rfl (Nat.le_of_ble_eq_true rfl) (Nat.le_of_ble_eq_true rfl) (Nat.le_of_ble_eq_true rfl) (x_rv ?_)
  exact t_X9_chanceOf_c2 l H

theorem ct_X9_chanceOf (l : Launch) {v0 : Nat} {v1 : Int32} {v2 : Int32} {M : XM} {q : Int32 × XM} (H : f_X9_chanceOf v0 v1 v2 M = some q) : Ct l m_X9_chanceOf 4 0 0 [(.ref v0), (.int v1), (.int v2)] M (x_Ri q) := x_met l m_X9_chanceOf 4 0 0 [(.ref v0), (.int v1), (.int v2)] M (x_Ri q) _ rfl rfl (Nat.le_of_ble_eq_true rfl) (t_X9_chanceOf l H)
abbrev m_X9_medianOf : XU := (yX9_medianOf, cX9_medianOf, 4, (some .int))
theorem cn_X9_medianOf : m_X9_medianOf.1.cls ≠ "java/lang/invoke/MethodHandle" ∧ m_X9_medianOf.1.cls ≠ "java/lang/invoke/VarHandle" ∧ (parseMethodDescriptor m_X9_medianOf.1.desc).map (fun q => q.parameters.length) = some 2 := by decide +kernel
def f_X9_medianOf_c26 (κ7 : Nat → Int32 → Int32 → Int32 → XM → Option (Int32 × XM)) (v0 : Nat) (v1 : Int32) (v2 : Int32) (v3 : Int32) (M : XM) : Option (Int32 × XM) :=
  κ7 v0 v1 v2 (v3 + (1 : Int32)) M
set_option maxRecDepth 20000 in
set_option maxHeartbeats 4000000 in
theorem t_X9_medianOf_c26 (l : Launch) {κ7 : Nat → Int32 → Int32 → Int32 → XM → Option (Int32 × XM)} {v0 : Nat} {v1 : Int32} {v2 : Int32} {v3 : Int32} {M : XM} {q : Int32 × XM} (hκ7 : ∀ (v0 : Nat) (v1 : Int32) (v2 : Int32) (v3 : Int32) (M : XM), κ7 v0 v1 v2 v3 M = some q → AW l m_X9_medianOf 4 0 0 (x_Ri q) 0 0 7 [some (.ref v0), some (.int v1), some (.int v2), some (.int v3)] [] M) (H : f_X9_medianOf_c26 κ7 v0 v1 v2 v3 M = some q) : AW l m_X9_medianOf 4 0 0 (x_Ri q) 0 0 29 [some (.ref v0), some (.int v1), some (.int v2), some (.int v3)] [] M := by
  unfold f_X9_medianOf_c26 at H
  refine x_iinc 29 3 (v3 + (1 : Int32)) [some (.ref v0), some (.int v1), some (.int v2), some (.int (v3 + (1 : Int32)))] dX9_medianOf_29 rfl (congrArg (fun z : Int32 => v3 + z) (show Int32.ofInt (1) = (1 : Int32) by decide)) rfl (Nat.le_of_ble_eq_true rfl) rfl ?_
  refine x_goto 32 7 dX9_medianOf_32 (by decide) ?_
  exact hκ7 _ _ _ _ _ H

def f_X9_medianOf_c15 (κ7 : Nat → Int32 → Int32 → Int32 → XM → Option (Int32 × XM)) (v0 : Nat) (v1 : Int32) (v2 : Int32) (v3 : Int32) (s0 : Int32) (M : XM) : Option (Int32 × XM) :=
  if s0 < v2 then (if x_tag M v0 = 9 + 10 then (x_bv (f_X9_flows v0 v1 M) (f_X9_medianOf_c26 κ7 v0 v1 v2 v3)) else none) else (some (v3, M))
set_option maxRecDepth 20000 in
set_option maxHeartbeats 4000000 in
theorem t_X9_medianOf_c15 (l : Launch) {κ7 : Nat → Int32 → Int32 → Int32 → XM → Option (Int32 × XM)} {v0 : Nat} {v1 : Int32} {v2 : Int32} {v3 : Int32} {s0 : Int32} {M : XM} {q : Int32 × XM} (hκ7 : ∀ (v0 : Nat) (v1 : Int32) (v2 : Int32) (v3 : Int32) (M : XM), κ7 v0 v1 v2 v3 M = some q → AW l m_X9_medianOf 4 0 0 (x_Ri q) 0 0 7 [some (.ref v0), some (.int v1), some (.int v2), some (.int v3)] [] M) (H : f_X9_medianOf_c15 κ7 v0 v1 v2 v3 s0 M = some q) : AW l m_X9_medianOf 4 0 0 (x_Ri q) 0 0 18 [some (.ref v0), some (.int v1), some (.int v2), some (.int v3)] [(.int s0)] M := by
  unfold f_X9_medianOf_c15 at H
  refine x_iload_n 18 2 dX9_medianOf_18 rfl rfl ?_
  refine x_icmp_lt 19 24 dX9_medianOf_19 (by decide) (fun c10 => ?_) (fun c10 => ?_)
  · replace H := x_ifp c10 H
    refine x_aload_n 24 0 dX9_medianOf_24 rfl rfl ?_
    refine x_iload_n 25 1 dX9_medianOf_25 rfl rfl ?_
    obtain ⟨h11, H⟩ := x_ckp H
    obtain ⟨M12, e14, H⟩ := x_bv_of H
    refine x_callV 26 230 9 [(.int v1)] [] dX9_medianOf_26 (ct_X9_flows l e14) lk_1343 lk_1345 lk_65 (by decide) h11 lk_94 lk_1346 ⟨cn_X9_flows, (by decide), by decide⟩ rfl (Nat.le_of_ble_eq_true rfl) (Nat.le_of_ble_eq_true rfl) (Nat.le_of_ble_eq_true rfl) (x_rv ?_)
    exact t_X9_medianOf_c26 l hκ7 H
  · replace H := x_ifn c10 H
    refine x_iload_n 22 3 dX9_medianOf_22 rfl rfl ?_
    cases H
    exact x_iret 23 dX9_medianOf_23 .int rfl rfl (Nat.le_of_ble_eq_true rfl) (Nat.le_of_ble_eq_true rfl) ⟨rfl, rfl⟩

def bd_X9_medianOf_7 (κ7 : Nat → Int32 → Int32 → Int32 → XM → Option (Int32 × XM)) (v0 : Nat) (v1 : Int32) (v2 : Int32) (v3 : Int32) (M : XM) : Option (Int32 × XM) :=
  if (400 : Int32) < v3 then (some ((-1 : Int32), M)) else (if x_tag M v0 = 9 + 10 then (x_bd (f_X9_partsThrough v0 M) (f_X9_medianOf_c15 κ7 v0 v1 v2 v3)) else none)
set_option maxRecDepth 20000 in
set_option maxHeartbeats 4000000 in
theorem tb_X9_medianOf_7 (l : Launch) {κ7 : Nat → Int32 → Int32 → Int32 → XM → Option (Int32 × XM)} {v0 : Nat} {v1 : Int32} {v2 : Int32} {v3 : Int32} {M : XM} {q : Int32 × XM} (hκ7 : ∀ (v0 : Nat) (v1 : Int32) (v2 : Int32) (v3 : Int32) (M : XM), κ7 v0 v1 v2 v3 M = some q → AW l m_X9_medianOf 4 0 0 (x_Ri q) 0 0 7 [some (.ref v0), some (.int v1), some (.int v2), some (.int v3)] [] M) (H : bd_X9_medianOf_7 κ7 v0 v1 v2 v3 M = some q) : AW l m_X9_medianOf 4 0 0 (x_Ri q) 0 0 7 [some (.ref v0), some (.int v1), some (.int v2), some (.int v3)] [] M := by
  unfold bd_X9_medianOf_7 at H
  refine x_iload_n 7 3 dX9_medianOf_7 rfl rfl ?_
  refine x_sipush 8 (400 : Int32) dX9_medianOf_8 (by decide) ?_
  refine x_icmp_gt 11 35 dX9_medianOf_11 (by decide) (fun c5 => ?_) (fun c5 => ?_)
  · replace H := x_ifp c5 H
    refine x_iconst 35 (-1 : Int32) dX9_medianOf_35 (by decide) ?_
    cases H
    exact x_iret 36 dX9_medianOf_36 .int rfl rfl (Nat.le_of_ble_eq_true rfl) (Nat.le_of_ble_eq_true rfl) ⟨rfl, rfl⟩
  · replace H := x_ifn c5 H
    refine x_aload_n 14 0 dX9_medianOf_14 rfl rfl ?_
    obtain ⟨h6, H⟩ := x_ckp H
    obtain ⟨r8, M7, e9, H⟩ := x_bd_of H
    refine x_callV 15 233 9 [] [] dX9_medianOf_15 (ct_X9_partsThrough l e9) lk_1348 lk_1350 lk_66 (by decide) h6 lk_94 lk_1351 ⟨cn_X9_partsThrough, (by decide), by decide⟩ rfl (Nat.le_of_ble_eq_true rfl) (Nat.le_of_ble_eq_true rfl) (Nat.le_of_ble_eq_true rfl) (x_ri ?_)
    exact t_X9_medianOf_c15 l hκ7 H

def lp_X9_medianOf_7 (n : Nat) : Nat → Int32 → Int32 → Int32 → XM → Option (Int32 × XM) := x_rec (fun _ _ _ _ _ => none) (bd_X9_medianOf_7) n
theorem t_X9_medianOf_7 (l : Launch) {q : Int32 × XM} : ∀ (n : Nat) (v0 : Nat) (v1 : Int32) (v2 : Int32) (v3 : Int32) (M : XM), lp_X9_medianOf_7 n v0 v1 v2 v3 M = some q → AW l m_X9_medianOf 4 0 0 (x_Ri q) 0 0 7 [some (.ref v0), some (.int v1), some (.int v2), some (.int v3)] [] M := by
  intro n
  induction n with
  | zero => intro v0 v1 v2 v3 M H; cases H
  | succ n ih => intro v0 v1 v2 v3 M H; exact tb_X9_medianOf_7 l ih H
def f_X9_medianOf_c2 (v0 : Nat) (v1 : Int32) (v2 : Int32) (M : XM) : Option (Int32 × XM) :=
  lp_X9_medianOf_7 x_fuel v0 v1 v2 (0 : Int32) M
set_option maxRecDepth 20000 in
set_option maxHeartbeats 4000000 in
theorem t_X9_medianOf_c2 (l : Launch) {v0 : Nat} {v1 : Int32} {v2 : Int32} {M : XM} {q : Int32 × XM} (H : f_X9_medianOf_c2 v0 v1 v2 M = some q) : AW l m_X9_medianOf 4 0 0 (x_Ri q) 0 0 5 [some (.ref v0), some (.int v1), some (.int v2), none] [] M := by
  unfold f_X9_medianOf_c2 at H
  refine x_iconst 5 (0 : Int32) dX9_medianOf_5 (by decide) ?_
  refine x_istore_n 6 3 [some (.ref v0), some (.int v1), some (.int v2), some (.int (0 : Int32))] dX9_medianOf_6 rfl rfl (Nat.le_of_ble_eq_true rfl) rfl ?_
  exact t_X9_medianOf_7 l _ _ _ _ _ _ H

def f_X9_medianOf (v0 : Nat) (v1 : Int32) (v2 : Int32) (M : XM) : Option (Int32 × XM) :=
  if x_tag M v0 = 9 + 10 then (x_bv (f_X9_lays v0 v1 M) (f_X9_medianOf_c2 v0 v1 v2)) else none
set_option maxRecDepth 20000 in
set_option maxHeartbeats 4000000 in
theorem t_X9_medianOf (l : Launch) {v0 : Nat} {v1 : Int32} {v2 : Int32} {M : XM} {q : Int32 × XM} (H : f_X9_medianOf v0 v1 v2 M = some q) : AW l m_X9_medianOf 4 0 0 (x_Ri q) 0 0 0 [some (.ref v0), some (.int v1), some (.int v2), none] [] M := by
  unfold f_X9_medianOf at H
  refine x_aload_n 0 0 dX9_medianOf_0 rfl rfl ?_
  refine x_iload_n 1 1 dX9_medianOf_1 rfl rfl ?_
  obtain ⟨h1, H⟩ := x_ckp H
  obtain ⟨M2, e4, H⟩ := x_bv_of H
  refine x_callV 2 227 9 [(.int v1)] [] dX9_medianOf_2 (ct_X9_lays l e4) lk_1330 lk_1332 lk_62 (by decide) h1 lk_94 lk_1333 ⟨cn_X9_lays, (by decide), by decide⟩ rfl (Nat.le_of_ble_eq_true rfl) (Nat.le_of_ble_eq_true rfl) (Nat.le_of_ble_eq_true rfl) (x_rv ?_)
  exact t_X9_medianOf_c2 l H

theorem ct_X9_medianOf (l : Launch) {v0 : Nat} {v1 : Int32} {v2 : Int32} {M : XM} {q : Int32 × XM} (H : f_X9_medianOf v0 v1 v2 M = some q) : Ct l m_X9_medianOf 4 0 0 [(.ref v0), (.int v1), (.int v2)] M (x_Ri q) := x_met l m_X9_medianOf 4 0 0 [(.ref v0), (.int v1), (.int v2)] M (x_Ri q) _ rfl rfl (Nat.le_of_ble_eq_true rfl) (t_X9_medianOf l H)
theorem lk_1329 : Cond.code yX9_chanceOf cX9_chanceOf 4 (some .int) ∈ x_TB := x_tb (k := 1329) (by decide +kernel) rfl
theorem lk_1326 : Cond.methodLink RX9 236 yX9_chanceOf ∈ x_TB := x_tb (k := 1326) (by decide +kernel) rfl
theorem lk_61 : Cond.selects RX9 yX9_chanceOf yX9_chanceOf ∈ x_TB := x_tb (k := 61) (by decide +kernel) rfl
theorem lk_1328 : Cond.instanceMethod yX9_chanceOf ∈ x_TB := x_tb (k := 1328) (by decide +kernel) rfl
abbrev m_X9_chance : XU := (yX9_chance, cX9_chance, 3, (some .int))
theorem cn_X9_chance : m_X9_chance.1.cls ≠ "java/lang/invoke/MethodHandle" ∧ m_X9_chance.1.cls ≠ "java/lang/invoke/VarHandle" ∧ (parseMethodDescriptor m_X9_chance.1.desc).map (fun q => q.parameters.length) = some 2 := by decide +kernel
def f_X9_chance_34 (v0 : Nat) (M : XM) : Option (Int32 × XM) :=
  if x_tag M v0 = 9 + 10 then (x_bd (f_X9_no v0 (-6 : Int32) M) (fun r13 M12 => some (r13, M12))) else none
set_option maxRecDepth 20000 in
set_option maxHeartbeats 4000000 in
theorem t_X9_chance_34 (l : Launch) {v0 : Nat} {M : XM} {q : Int32 × XM} (H : f_X9_chance_34 v0 M = some q) : AW l m_X9_chance 5 0 0 (x_Ri q) 0 0 34 [some (.ref v0), none, none] [] M := by
  unfold f_X9_chance_34 at H
  refine x_aload_n 34 0 dX9_chance_34 rfl rfl ?_
  refine x_bipush 35 (-6 : Int32) dX9_chance_35 (by decide) ?_
  obtain ⟨h11, H⟩ := x_ckp H
  obtain ⟨r13, M12, e14, H⟩ := x_bd_of H
  refine x_callV 37 100 9 [(.int (-6 : Int32))] [] dX9_chance_37 (ct_X9_no l e14) lk_1165 lk_1167 lk_37 (by decide) h11 lk_94 lk_1168 ⟨cn_X9_no, (by decide), by decide⟩ rfl (Nat.le_of_ble_eq_true rfl) (Nat.le_of_ble_eq_true rfl) (Nat.le_of_ble_eq_true rfl) (x_ri ?_)
  cases H
  exact x_iret 40 dX9_chance_40 .int rfl rfl (Nat.le_of_ble_eq_true rfl) (Nat.le_of_ble_eq_true rfl) ⟨rfl, rfl⟩

def f_X9_chance_c2 (v0 : Nat) (v1 : Int32) (v2 : Int32) (s0 : Int32) (M : XM) : Option (Int32 × XM) :=
  if s0 = 0 then (if x_tag M v0 = 9 + 10 then (x_bd (f_X9_no v0 (-1 : Int32) M) (fun r8 M7 => some (r8, M7))) else none) else (if v2 < 0 then (f_X9_chance_34 v0 M) else (if (400 : Int32) < v2 then (f_X9_chance_34 v0 M) else (if x_tag M v0 = 9 + 10 then (x_bd (f_X9_chanceOf v0 v1 v2 M) (fun r18 M17 => some (r18, M17))) else none)))
set_option maxRecDepth 20000 in
set_option maxHeartbeats 4000000 in
theorem t_X9_chance_c2 (l : Launch) {v0 : Nat} {v1 : Int32} {v2 : Int32} {s0 : Int32} {M : XM} {q : Int32 × XM} (H : f_X9_chance_c2 v0 v1 v2 s0 M = some q) : AW l m_X9_chance 5 0 0 (x_Ri q) 0 0 5 [some (.ref v0), some (.int v1), some (.int v2)] [(.int s0)] M := by
  unfold f_X9_chance_c2 at H
  refine x_if_ne 5 14 dX9_chance_5 (by decide) (fun c5 => ?_) (fun c5 => ?_)
  · replace H := x_ifn c5 H
    refine x_iload_n 14 2 dX9_chance_14 rfl rfl ?_
    refine x_if_lt 15 34 dX9_chance_15 (by decide) (fun c10 => ?_) (fun c10 => ?_)
    · replace H := x_ifp c10 H
      exact x_wk (le_s (le_n (le_n le_0))) (t_X9_chance_34 l H)
    · replace H := x_ifn c10 H
      refine x_iload_n 18 2 dX9_chance_18 rfl rfl ?_
      refine x_sipush 19 (400 : Int32) dX9_chance_19 (by decide) ?_
      refine x_icmp_gt 22 34 dX9_chance_22 (by decide) (fun c15 => ?_) (fun c15 => ?_)
      · replace H := x_ifp c15 H
        exact x_wk (le_s (le_n (le_n le_0))) (t_X9_chance_34 l H)
      · replace H := x_ifn c15 H
        refine x_aload_n 25 0 dX9_chance_25 rfl rfl ?_
        refine x_iload_n 26 1 dX9_chance_26 rfl rfl ?_
        refine x_iload_n 27 2 dX9_chance_27 rfl rfl ?_
        obtain ⟨h16, H⟩ := x_ckp H
        obtain ⟨r18, M17, e19, H⟩ := x_bd_of H
        refine x_callV 28 236 9 [(.int v1), (.int v2)] [] dX9_chance_28 (ct_X9_chanceOf l e19) lk_1326 lk_1328 lk_61 (by decide) h16 lk_94 lk_1329 ⟨cn_X9_chanceOf, (by decide), by decide⟩ rfl (Nat.le_of_ble_eq_true rfl) (Nat.le_of_ble_eq_true rfl) (Nat.le_of_ble_eq_true rfl) (x_ri ?_)
        refine x_goto 31 40 dX9_chance_31 (by decide) ?_
        cases H
        exact x_iret 40 dX9_chance_40 .int rfl rfl (Nat.le_of_ble_eq_true rfl) (Nat.le_of_ble_eq_true rfl) ⟨rfl, rfl⟩
  · replace H := x_ifp c5 H
    refine x_aload_n 8 0 dX9_chance_8 rfl rfl ?_
    refine x_iconst 9 (-1 : Int32) dX9_chance_9 (by decide) ?_
    obtain ⟨h6, H⟩ := x_ckp H
    obtain ⟨r8, M7, e9, H⟩ := x_bd_of H
    refine x_callV 10 100 9 [(.int (-1 : Int32))] [] dX9_chance_10 (ct_X9_no l e9) lk_1165 lk_1167 lk_37 (by decide) h6 lk_94 lk_1168 ⟨cn_X9_no, (by decide), by decide⟩ rfl (Nat.le_of_ble_eq_true rfl) (Nat.le_of_ble_eq_true rfl) (Nat.le_of_ble_eq_true rfl) (x_ri ?_)
    cases H
    exact x_iret 13 dX9_chance_13 .int rfl rfl (Nat.le_of_ble_eq_true rfl) (Nat.le_of_ble_eq_true rfl) ⟨rfl, rfl⟩

def f_X9_chance (v0 : Nat) (v1 : Int32) (v2 : Int32) (M : XM) : Option (Int32 × XM) :=
  if x_tag M v0 = 9 + 10 then (x_bd (f_X9_isCounter v0 v1 M) (f_X9_chance_c2 v0 v1 v2)) else none
set_option maxRecDepth 20000 in
set_option maxHeartbeats 4000000 in
theorem t_X9_chance (l : Launch) {v0 : Nat} {v1 : Int32} {v2 : Int32} {M : XM} {q : Int32 × XM} (H : f_X9_chance v0 v1 v2 M = some q) : AW l m_X9_chance 5 0 0 (x_Ri q) 0 0 0 [some (.ref v0), some (.int v1), some (.int v2)] [] M := by
  unfold f_X9_chance at H
  refine x_aload_n 0 0 dX9_chance_0 rfl rfl ?_
  refine x_iload_n 1 1 dX9_chance_1 rfl rfl ?_
  obtain ⟨h1, H⟩ := x_ckp H
  obtain ⟨r3, M2, e4, H⟩ := x_bd_of H
  refine x_callV 2 104 9 [(.int v1)] [] dX9_chance_2 (ct_X9_isCounter l e4) lk_1185 lk_1187 lk_38 (by decide) h1 lk_94 lk_1188 ⟨cn_X9_isCounter, (by decide), by decide⟩ rfl (Nat.le_of_ble_eq_true rfl) (Nat.le_of_ble_eq_true rfl) (Nat.le_of_ble_eq_true rfl) (x_ri ?_)
  exact t_X9_chance_c2 l H

theorem ct_X9_chance (l : Launch) {v0 : Nat} {v1 : Int32} {v2 : Int32} {M : XM} {q : Int32 × XM} (H : f_X9_chance v0 v1 v2 M = some q) : Ct l m_X9_chance 5 0 0 [(.ref v0), (.int v1), (.int v2)] M (x_Ri q) := x_met l m_X9_chance 5 0 0 [(.ref v0), (.int v1), (.int v2)] M (x_Ri q) _ rfl rfl (Nat.le_of_ble_eq_true rfl) (t_X9_chance l H)
theorem lk_1359 : Cond.code yX9_medianOf cX9_medianOf 4 (some .int) ∈ x_TB := x_tb (k := 1359) (by decide +kernel) rfl
theorem lk_1356 : Cond.methodLink RX9 239 yX9_medianOf ∈ x_TB := x_tb (k := 1356) (by decide +kernel) rfl
theorem lk_67 : Cond.selects RX9 yX9_medianOf yX9_medianOf ∈ x_TB := x_tb (k := 67) (by decide +kernel) rfl
theorem lk_1358 : Cond.instanceMethod yX9_medianOf ∈ x_TB := x_tb (k := 1358) (by decide +kernel) rfl
abbrev m_X9_median : XU := (yX9_median, cX9_median, 3, (some .int))
theorem cn_X9_median : m_X9_median.1.cls ≠ "java/lang/invoke/MethodHandle" ∧ m_X9_median.1.cls ≠ "java/lang/invoke/VarHandle" ∧ (parseMethodDescriptor m_X9_median.1.desc).map (fun q => q.parameters.length) = some 2 := by decide +kernel
def f_X9_median_34 (v0 : Nat) (M : XM) : Option (Int32 × XM) :=
  if x_tag M v0 = 9 + 10 then (x_bd (f_X9_noTen v0 (-6 : Int32) M) (fun r13 M12 => some (r13, M12))) else none
set_option maxRecDepth 20000 in
set_option maxHeartbeats 4000000 in
theorem t_X9_median_34 (l : Launch) {v0 : Nat} {M : XM} {q : Int32 × XM} (H : f_X9_median_34 v0 M = some q) : AW l m_X9_median 5 0 0 (x_Ri q) 0 0 34 [some (.ref v0), none, none] [] M := by
  unfold f_X9_median_34 at H
  refine x_aload_n 34 0 dX9_median_34 rfl rfl ?_
  refine x_bipush 35 (-6 : Int32) dX9_median_35 (by decide) ?_
  obtain ⟨h11, H⟩ := x_ckp H
  obtain ⟨r13, M12, e14, H⟩ := x_bd_of H
  refine x_callV 37 212 9 [(.int (-6 : Int32))] [] dX9_median_37 (ct_X9_noTen l e14) lk_1314 lk_1316 lk_59 (by decide) h11 lk_94 lk_1317 ⟨cn_X9_noTen, (by decide), by decide⟩ rfl (Nat.le_of_ble_eq_true rfl) (Nat.le_of_ble_eq_true rfl) (Nat.le_of_ble_eq_true rfl) (x_ri ?_)
  cases H
  exact x_iret 40 dX9_median_40 .int rfl rfl (Nat.le_of_ble_eq_true rfl) (Nat.le_of_ble_eq_true rfl) ⟨rfl, rfl⟩

def f_X9_median_c2 (v0 : Nat) (v1 : Int32) (v2 : Int32) (s0 : Int32) (M : XM) : Option (Int32 × XM) :=
  if s0 = 0 then (if x_tag M v0 = 9 + 10 then (x_bd (f_X9_noTen v0 (-1 : Int32) M) (fun r8 M7 => some (r8, M7))) else none) else (if v2 < (1 : Int32) then (f_X9_median_34 v0 M) else (if (1000000 : Int32) < v2 then (f_X9_median_34 v0 M) else (if x_tag M v0 = 9 + 10 then (x_bd (f_X9_medianOf v0 v1 v2 M) (fun r18 M17 => some (r18, M17))) else none)))
set_option maxRecDepth 20000 in
set_option maxHeartbeats 4000000 in
theorem t_X9_median_c2 (l : Launch) {v0 : Nat} {v1 : Int32} {v2 : Int32} {s0 : Int32} {M : XM} {q : Int32 × XM} (H : f_X9_median_c2 v0 v1 v2 s0 M = some q) : AW l m_X9_median 5 0 0 (x_Ri q) 0 0 5 [some (.ref v0), some (.int v1), some (.int v2)] [(.int s0)] M := by
  unfold f_X9_median_c2 at H
  refine x_if_ne 5 14 dX9_median_5 (by decide) (fun c5 => ?_) (fun c5 => ?_)
  · replace H := x_ifn c5 H
    refine x_iload_n 14 2 dX9_median_14 rfl rfl ?_
    refine x_iconst 15 (1 : Int32) dX9_median_15 (by decide) ?_
    refine x_icmp_lt 16 34 dX9_median_16 (by decide) (fun c10 => ?_) (fun c10 => ?_)
    · replace H := x_ifp c10 H
      exact x_wk (le_s (le_n (le_n le_0))) (t_X9_median_34 l H)
    · replace H := x_ifn c10 H
      refine x_iload_n 19 2 dX9_median_19 rfl rfl ?_
      refine x_ldc 20 (1000000 : Int32) dX9_median_20 lk_1342 ?_
      refine x_icmp_gt 22 34 dX9_median_22 (by decide) (fun c15 => ?_) (fun c15 => ?_)
      · replace H := x_ifp c15 H
        exact x_wk (le_s (le_n (le_n le_0))) (t_X9_median_34 l H)
      · replace H := x_ifn c15 H
        refine x_aload_n 25 0 dX9_median_25 rfl rfl ?_
        refine x_iload_n 26 1 dX9_median_26 rfl rfl ?_
        refine x_iload_n 27 2 dX9_median_27 rfl rfl ?_
        obtain ⟨h16, H⟩ := x_ckp H
        obtain ⟨r18, M17, e19, H⟩ := x_bd_of H
        refine x_callV 28 239 9 [(.int v1), (.int v2)] [] dX9_median_28 (ct_X9_medianOf l e19) lk_1356 lk_1358 lk_67 (by decide) h16 lk_94 lk_1359 ⟨cn_X9_medianOf, (by decide), by decide⟩ rfl (Nat.le_of_ble_eq_true rfl) (Nat.le_of_ble_eq_true rfl) (Nat.le_of_ble_eq_true rfl) (x_ri ?_)
        refine x_goto 31 40 dX9_median_31 (by decide) ?_
        cases H
        exact x_iret 40 dX9_median_40 .int rfl rfl (Nat.le_of_ble_eq_true rfl) (Nat.le_of_ble_eq_true rfl) ⟨rfl, rfl⟩
  · replace H := x_ifp c5 H
    refine x_aload_n 8 0 dX9_median_8 rfl rfl ?_
    refine x_iconst 9 (-1 : Int32) dX9_median_9 (by decide) ?_
    obtain ⟨h6, H⟩ := x_ckp H
    obtain ⟨r8, M7, e9, H⟩ := x_bd_of H
    refine x_callV 10 212 9 [(.int (-1 : Int32))] [] dX9_median_10 (ct_X9_noTen l e9) lk_1314 lk_1316 lk_59 (by decide) h6 lk_94 lk_1317 ⟨cn_X9_noTen, (by decide), by decide⟩ rfl (Nat.le_of_ble_eq_true rfl) (Nat.le_of_ble_eq_true rfl) (Nat.le_of_ble_eq_true rfl) (x_ri ?_)
    cases H
    exact x_iret 13 dX9_median_13 .int rfl rfl (Nat.le_of_ble_eq_true rfl) (Nat.le_of_ble_eq_true rfl) ⟨rfl, rfl⟩

def f_X9_median (v0 : Nat) (v1 : Int32) (v2 : Int32) (M : XM) : Option (Int32 × XM) :=
  if x_tag M v0 = 9 + 10 then (x_bd (f_X9_isCounter v0 v1 M) (f_X9_median_c2 v0 v1 v2)) else none
set_option maxRecDepth 20000 in
set_option maxHeartbeats 4000000 in
theorem t_X9_median (l : Launch) {v0 : Nat} {v1 : Int32} {v2 : Int32} {M : XM} {q : Int32 × XM} (H : f_X9_median v0 v1 v2 M = some q) : AW l m_X9_median 5 0 0 (x_Ri q) 0 0 0 [some (.ref v0), some (.int v1), some (.int v2)] [] M := by
  unfold f_X9_median at H
  refine x_aload_n 0 0 dX9_median_0 rfl rfl ?_
  refine x_iload_n 1 1 dX9_median_1 rfl rfl ?_
  obtain ⟨h1, H⟩ := x_ckp H
  obtain ⟨r3, M2, e4, H⟩ := x_bd_of H
  refine x_callV 2 104 9 [(.int v1)] [] dX9_median_2 (ct_X9_isCounter l e4) lk_1185 lk_1187 lk_38 (by decide) h1 lk_94 lk_1188 ⟨cn_X9_isCounter, (by decide), by decide⟩ rfl (Nat.le_of_ble_eq_true rfl) (Nat.le_of_ble_eq_true rfl) (Nat.le_of_ble_eq_true rfl) (x_ri ?_)
  exact t_X9_median_c2 l H

theorem ct_X9_median (l : Launch) {v0 : Nat} {v1 : Int32} {v2 : Int32} {M : XM} {q : Int32 × XM} (H : f_X9_median v0 v1 v2 M = some q) : Ct l m_X9_median 5 0 0 [(.ref v0), (.int v1), (.int v2)] M (x_Ri q) := x_met l m_X9_median 5 0 0 [(.ref v0), (.int v1), (.int v2)] M (x_Ri q) _ rfl rfl (Nat.le_of_ble_eq_true rfl) (t_X9_median l H)
abbrev m_X9_bestApart : XU := (yX9_bestApart, cX9_bestApart, 8, (some .int))
theorem cn_X9_bestApart : m_X9_bestApart.1.cls ≠ "java/lang/invoke/MethodHandle" ∧ m_X9_bestApart.1.cls ≠ "java/lang/invoke/VarHandle" ∧ (parseMethodDescriptor m_X9_bestApart.1.desc).map (fun q => q.parameters.length) = some 2 := by decide +kernel
def f_X9_bestApart_52 (v0 : Nat) (M : XM) : Option (Int32 × XM) :=
  if x_tag M v0 = 9 + 10 then (x_bd (f_X9_noTen v0 (-6 : Int32) M) (fun r16 M15 => some (r16, M15))) else none
set_option maxRecDepth 20000 in
set_option maxHeartbeats 4000000 in
theorem t_X9_bestApart_52 (l : Launch) {v0 : Nat} {M : XM} {q : Int32 × XM} (H : f_X9_bestApart_52 v0 M = some q) : AW l m_X9_bestApart 5 0 0 (x_Ri q) 0 0 52 [some (.ref v0), none, none, none, none, none, none, none] [] M := by
  unfold f_X9_bestApart_52 at H
  refine x_aload_n 52 0 dX9_bestApart_52 rfl rfl ?_
  refine x_bipush 53 (-6 : Int32) dX9_bestApart_53 (by decide) ?_
  obtain ⟨h14, H⟩ := x_ckp H
  obtain ⟨r16, M15, e17, H⟩ := x_bd_of H
  refine x_callV 55 212 9 [(.int (-6 : Int32))] [] dX9_bestApart_55 (ct_X9_noTen l e17) lk_1314 lk_1316 lk_59 (by decide) h14 lk_94 lk_1317 ⟨cn_X9_noTen, (by decide), by decide⟩ rfl (Nat.le_of_ble_eq_true rfl) (Nat.le_of_ble_eq_true rfl) (Nat.le_of_ble_eq_true rfl) (x_ri ?_)
  cases H
  exact x_iret 58 dX9_bestApart_58 .int rfl rfl (Nat.le_of_ble_eq_true rfl) (Nat.le_of_ble_eq_true rfl) ⟨rfl, rfl⟩

def f_X9_bestApart_145 (κ75 : Nat → Int32 → Int32 → Int32 → Int32 → Int32 → XM → Option (Int32 × XM)) (v0 : Nat) (v1 : Int32) (v2 : Int32) (v3 : Int32) (v4 : Int32) (v5 : Int32) (M : XM) : Option (Int32 × XM) :=
  if x_tag M v0 = 9 + 10 then (x_lt (x_wi M v0 2 ((x_i M v0 2) + (1 : Int32))) (fun M35 => κ75 v0 v1 v2 v3 v4 v5 M35)) else none
set_option maxRecDepth 20000 in
set_option maxHeartbeats 4000000 in
theorem t_X9_bestApart_145 (l : Launch) {κ75 : Nat → Int32 → Int32 → Int32 → Int32 → Int32 → XM → Option (Int32 × XM)} {v0 : Nat} {v1 : Int32} {v2 : Int32} {v3 : Int32} {v4 : Int32} {v5 : Int32} {M : XM} {q : Int32 × XM} (hκ75 : ∀ (v0 : Nat) (v1 : Int32) (v2 : Int32) (v3 : Int32) (v4 : Int32) (v5 : Int32) (M : XM), κ75 v0 v1 v2 v3 v4 v5 M = some q → AW l m_X9_bestApart 5 0 0 (x_Ri q) 0 0 75 [some (.ref v0), some (.int v1), some (.int v2), some (.int v3), some (.int v4), some (.int v5), none, none] [] M) (H : f_X9_bestApart_145 κ75 v0 v1 v2 v3 v4 v5 M = some q) : AW l m_X9_bestApart 5 0 0 (x_Ri q) 0 0 145 [some (.ref v0), some (.int v1), some (.int v2), some (.int v3), some (.int v4), some (.int v5), none, none] [] M := by
  unfold f_X9_bestApart_145 at H
  refine x_aload_n 145 0 dX9_bestApart_145 rfl rfl ?_
  refine x_dup 146 dX9_bestApart_146 rfl ?_
  obtain ⟨h34, H⟩ := x_ckp H
  refine x_getf 147 13 9 2 (.int (x_i M v0 2)) dX9_bestApart_147 lk_1032 (by decide) (by decide) rfl (fun _ => rfl) h34 ?_
  refine x_iconst 150 (1 : Int32) dX9_bestApart_150 (by decide) ?_
  refine x_iadd 151 dX9_bestApart_151 ?_
  obtain ⟨M35, w36, H⟩ := x_lt_of H
  have h37 : x_tag M35 v0 = 9 + 10 := by rw [w36]; exact h34
  refine x_putI' 152 13 9 2 dX9_bestApart_152 lk_1032 (by decide) (by decide) rfl (Or.inl rfl) (Or.inl rfl) h34 w36 ?_
  refine x_goto 155 75 dX9_bestApart_155 (by decide) ?_
  exact hκ75 _ _ _ _ _ _ _ H

def f_X9_bestApart_135 (κ75 : Nat → Int32 → Int32 → Int32 → Int32 → Int32 → XM → Option (Int32 × XM)) (v0 : Nat) (v1 : Int32) (v2 : Int32) (v3 : Int32) (v7 : Int32) (M : XM) : Option (Int32 × XM) :=
  if x_tag M v0 = 9 + 10 then (f_X9_bestApart_145 κ75 v0 v1 v2 v3 (x_i M v0 2) v7 M) else none
set_option maxRecDepth 20000 in
set_option maxHeartbeats 4000000 in
theorem t_X9_bestApart_135 (l : Launch) {κ75 : Nat → Int32 → Int32 → Int32 → Int32 → Int32 → XM → Option (Int32 × XM)} {v0 : Nat} {v1 : Int32} {v2 : Int32} {v3 : Int32} {v7 : Int32} {M : XM} {q : Int32 × XM} (hκ75 : ∀ (v0 : Nat) (v1 : Int32) (v2 : Int32) (v3 : Int32) (v4 : Int32) (v5 : Int32) (M : XM), κ75 v0 v1 v2 v3 v4 v5 M = some q → AW l m_X9_bestApart 5 0 0 (x_Ri q) 0 0 75 [some (.ref v0), some (.int v1), some (.int v2), some (.int v3), some (.int v4), some (.int v5), none, none] [] M) (H : f_X9_bestApart_135 κ75 v0 v1 v2 v3 v7 M = some q) : AW l m_X9_bestApart 5 0 0 (x_Ri q) 0 0 135 [some (.ref v0), some (.int v1), some (.int v2), some (.int v3), none, none, none, some (.int v7)] [] M := by
  unfold f_X9_bestApart_135 at H
  refine x_aload_n 135 0 dX9_bestApart_135 rfl rfl ?_
  obtain ⟨h39, H⟩ := x_ckp H
  refine x_getf 136 13 9 2 (.int (x_i M v0 2)) dX9_bestApart_136 lk_1032 (by decide) (by decide) rfl (fun _ => rfl) h39 ?_
  refine x_istore 139 4 [some (.ref v0), some (.int v1), some (.int v2), some (.int v3), some (.int (x_i M v0 2)), none, none, some (.int v7)] dX9_bestApart_139 rfl (Nat.le_of_ble_eq_true rfl) rfl ?_
  refine x_iload 141 7 dX9_bestApart_141 rfl ?_
  refine x_istore 143 5 [some (.ref v0), some (.int v1), some (.int v2), some (.int v3), some (.int (x_i M v0 2)), some (.int v7), none, some (.int v7)] dX9_bestApart_143 rfl (Nat.le_of_ble_eq_true rfl) rfl ?_
  exact x_wk (le_s (le_s (le_s (le_s (le_s (le_s (le_s (le_n le_0)))))))) (t_X9_bestApart_145 l hκ75 H)

def f_X9_bestApart_c89 (κ75 : Nat → Int32 → Int32 → Int32 → Int32 → Int32 → XM → Option (Int32 × XM)) (v0 : Nat) (v1 : Int32) (v2 : Int32) (v3 : Int32) (v4 : Int32) (v5 : Int32) (s0 : Int32) (M : XM) : Option (Int32 × XM) :=
  if x_tag M v0 = 9 + 10 then (if (x_i M v0 2) = 0 then none else if s0 = (-1 : Int32) then (f_X9_bestApart_145 κ75 v0 v1 v2 v3 v4 v5 M) else (if v4 = (-1 : Int32) then (f_X9_bestApart_135 κ75 v0 v1 v2 v3 (s0 + ((x_i M v0 4) * ((x_i M v0 1) / (x_i M v0 2)))) M) else (if (s0 + ((x_i M v0 4) * ((x_i M v0 1) / (x_i M v0 2)))) < v5 then (f_X9_bestApart_135 κ75 v0 v1 v2 v3 (s0 + ((x_i M v0 4) * ((x_i M v0 1) / (x_i M v0 2)))) M) else (f_X9_bestApart_145 κ75 v0 v1 v2 v3 v4 v5 M)))) else none
set_option maxRecDepth 20000 in
set_option maxHeartbeats 4000000 in
theorem t_X9_bestApart_c89 (l : Launch) {κ75 : Nat → Int32 → Int32 → Int32 → Int32 → Int32 → XM → Option (Int32 × XM)} {v0 : Nat} {v1 : Int32} {v2 : Int32} {v3 : Int32} {v4 : Int32} {v5 : Int32} {s0 : Int32} {M : XM} {q : Int32 × XM} (hκ75 : ∀ (v0 : Nat) (v1 : Int32) (v2 : Int32) (v3 : Int32) (v4 : Int32) (v5 : Int32) (M : XM), κ75 v0 v1 v2 v3 v4 v5 M = some q → AW l m_X9_bestApart 5 0 0 (x_Ri q) 0 0 75 [some (.ref v0), some (.int v1), some (.int v2), some (.int v3), some (.int v4), some (.int v5), none, none] [] M) (H : f_X9_bestApart_c89 κ75 v0 v1 v2 v3 v4 v5 s0 M = some q) : AW l m_X9_bestApart 5 0 0 (x_Ri q) 0 0 92 [some (.ref v0), some (.int v1), some (.int v2), some (.int v3), some (.int v4), some (.int v5), none, none] [(.int s0)] M := by
  unfold f_X9_bestApart_c89 at H
  refine x_istore 92 6 [some (.ref v0), some (.int v1), some (.int v2), some (.int v3), some (.int v4), some (.int v5), some (.int s0), none] dX9_bestApart_92 rfl (Nat.le_of_ble_eq_true rfl) rfl ?_
  refine x_iload 94 6 dX9_bestApart_94 rfl ?_
  refine x_aload_n 96 0 dX9_bestApart_96 rfl rfl ?_
  obtain ⟨h31, H⟩ := x_ckp H
  refine x_getf 97 19 9 4 (.int (x_i M v0 4)) dX9_bestApart_97 lk_1034 (by decide) (by decide) rfl (fun _ => rfl) h31 ?_
  refine x_aload_n 100 0 dX9_bestApart_100 rfl rfl ?_
  refine x_getf 101 7 9 1 (.int (x_i M v0 1)) dX9_bestApart_101 lk_1031 (by decide) (by decide) rfl (fun _ => rfl) h31 ?_
  refine x_aload_n 104 0 dX9_bestApart_104 rfl rfl ?_
  refine x_getf 105 13 9 2 (.int (x_i M v0 2)) dX9_bestApart_105 lk_1032 (by decide) (by decide) rfl (fun _ => rfl) h31 ?_
  obtain ⟨h32, H⟩ := x_cnz H
  refine x_idiv 108 dX9_bestApart_108 h32 ?_
  refine x_imul 109 dX9_bestApart_109 ?_
  refine x_iadd 110 dX9_bestApart_110 ?_
  refine x_istore 111 7 [some (.ref v0), some (.int v1), some (.int v2), some (.int v3), some (.int v4), some (.int v5), some (.int s0), some (.int (s0 + ((x_i M v0 4) * ((x_i M v0 1) / (x_i M v0 2)))))] dX9_bestApart_111 rfl (Nat.le_of_ble_eq_true rfl) rfl ?_
  refine x_iload 113 6 dX9_bestApart_113 rfl ?_
  refine x_iconst 115 (-1 : Int32) dX9_bestApart_115 (by decide) ?_
  refine x_icmp_eq 116 145 dX9_bestApart_116 (by decide) (fun c33 => ?_) (fun c33 => ?_)
  · replace H := x_ifp c33 H
    exact x_wk (le_s (le_s (le_s (le_s (le_s (le_s (le_n (le_n le_0)))))))) (t_X9_bestApart_145 l hκ75 H)
  · replace H := x_ifn c33 H
    refine x_iload 119 4 dX9_bestApart_119 rfl ?_
    refine x_iconst 121 (-1 : Int32) dX9_bestApart_121 (by decide) ?_
    refine x_icmp_eq 122 135 dX9_bestApart_122 (by decide) (fun c38 => ?_) (fun c38 => ?_)
    · replace H := x_ifp c38 H
      exact x_wk (le_s (le_s (le_s (le_s (le_n (le_n (le_n (le_s le_0)))))))) (t_X9_bestApart_135 l hκ75 H)
    · replace H := x_ifn c38 H
      refine x_iload 125 7 dX9_bestApart_125 rfl ?_
      refine x_iload 127 5 dX9_bestApart_127 rfl ?_
      refine x_icmp_lt 129 135 dX9_bestApart_129 (by decide) (fun c40 => ?_) (fun c40 => ?_)
      · replace H := x_ifp c40 H
        exact x_wk (le_s (le_s (le_s (le_s (le_n (le_n (le_n (le_s le_0)))))))) (t_X9_bestApart_135 l hκ75 H)
      · replace H := x_ifn c40 H
        refine x_goto 132 145 dX9_bestApart_132 (by decide) ?_
        exact x_wk (le_s (le_s (le_s (le_s (le_s (le_s (le_n (le_n le_0)))))))) (t_X9_bestApart_145 l hκ75 H)

def bd_X9_bestApart_75 (κ75 : Nat → Int32 → Int32 → Int32 → Int32 → Int32 → XM → Option (Int32 × XM)) (v0 : Nat) (v1 : Int32) (v2 : Int32) (v3 : Int32) (v4 : Int32) (v5 : Int32) (M : XM) : Option (Int32 × XM) :=
  if x_tag M v0 = 9 + 10 then (if (x_i M v0 1) < (x_i M v0 2) then (x_lt (x_wi M v0 2 v3) (fun M25 => some (v4, M25))) else (x_bd (f_X9_medianOf v0 v1 v2 M) (f_X9_bestApart_c89 κ75 v0 v1 v2 v3 v4 v5))) else none
set_option maxRecDepth 20000 in
set_option maxHeartbeats 4000000 in
theorem tb_X9_bestApart_75 (l : Launch) {κ75 : Nat → Int32 → Int32 → Int32 → Int32 → Int32 → XM → Option (Int32 × XM)} {v0 : Nat} {v1 : Int32} {v2 : Int32} {v3 : Int32} {v4 : Int32} {v5 : Int32} {M : XM} {q : Int32 × XM} (hκ75 : ∀ (v0 : Nat) (v1 : Int32) (v2 : Int32) (v3 : Int32) (v4 : Int32) (v5 : Int32) (M : XM), κ75 v0 v1 v2 v3 v4 v5 M = some q → AW l m_X9_bestApart 5 0 0 (x_Ri q) 0 0 75 [some (.ref v0), some (.int v1), some (.int v2), some (.int v3), some (.int v4), some (.int v5), none, none] [] M) (H : bd_X9_bestApart_75 κ75 v0 v1 v2 v3 v4 v5 M = some q) : AW l m_X9_bestApart 5 0 0 (x_Ri q) 0 0 75 [some (.ref v0), some (.int v1), some (.int v2), some (.int v3), some (.int v4), some (.int v5), none, none] [] M := by
  unfold bd_X9_bestApart_75 at H
  refine x_aload_n 75 0 dX9_bestApart_75 rfl rfl ?_
  obtain ⟨h23, H⟩ := x_ckp H
  refine x_getf 76 13 9 2 (.int (x_i M v0 2)) dX9_bestApart_76 lk_1032 (by decide) (by decide) rfl (fun _ => rfl) h23 ?_
  refine x_aload_n 79 0 dX9_bestApart_79 rfl rfl ?_
  refine x_getf 80 7 9 1 (.int (x_i M v0 1)) dX9_bestApart_80 lk_1031 (by decide) (by decide) rfl (fun _ => rfl) h23 ?_
  refine x_icmp_gt 83 158 dX9_bestApart_83 (by decide) (fun c24 => ?_) (fun c24 => ?_)
  · replace H := x_ifp c24 H
    refine x_aload_n 158 0 dX9_bestApart_158 rfl rfl ?_
    refine x_iload_n 159 3 dX9_bestApart_159 rfl rfl ?_
    obtain ⟨M25, w26, H⟩ := x_lt_of H
    have h27 : x_tag M25 v0 = 9 + 10 := by rw [w26]; exact h23
    refine x_putI' 160 13 9 2 dX9_bestApart_160 lk_1032 (by decide) (by decide) rfl (Or.inl rfl) (Or.inl rfl) h23 w26 ?_
    refine x_iload 163 4 dX9_bestApart_163 rfl ?_
    cases H
    exact x_iret 165 dX9_bestApart_165 .int rfl rfl (Nat.le_of_ble_eq_true rfl) (Nat.le_of_ble_eq_true rfl) ⟨rfl, rfl⟩
  · replace H := x_ifn c24 H
    refine x_aload_n 86 0 dX9_bestApart_86 rfl rfl ?_
    refine x_iload_n 87 1 dX9_bestApart_87 rfl rfl ?_
    refine x_iload_n 88 2 dX9_bestApart_88 rfl rfl ?_
    obtain ⟨r29, M28, e30, H⟩ := x_bd_of H
    refine x_callV 89 239 9 [(.int v1), (.int v2)] [] dX9_bestApart_89 (ct_X9_medianOf l e30) lk_1356 lk_1358 lk_67 (by decide) h23 lk_94 lk_1359 ⟨cn_X9_medianOf, (by decide), by decide⟩ rfl (Nat.le_of_ble_eq_true rfl) (Nat.le_of_ble_eq_true rfl) (Nat.le_of_ble_eq_true rfl) (x_ri ?_)
    exact t_X9_bestApart_c89 l hκ75 H

def lp_X9_bestApart_75 (n : Nat) : Nat → Int32 → Int32 → Int32 → Int32 → Int32 → XM → Option (Int32 × XM) := x_rec (fun _ _ _ _ _ _ _ => none) (bd_X9_bestApart_75) n
theorem t_X9_bestApart_75 (l : Launch) {q : Int32 × XM} : ∀ (n : Nat) (v0 : Nat) (v1 : Int32) (v2 : Int32) (v3 : Int32) (v4 : Int32) (v5 : Int32) (M : XM), lp_X9_bestApart_75 n v0 v1 v2 v3 v4 v5 M = some q → AW l m_X9_bestApart 5 0 0 (x_Ri q) 0 0 75 [some (.ref v0), some (.int v1), some (.int v2), some (.int v3), some (.int v4), some (.int v5), none, none] [] M := by
  intro n
  induction n with
  | zero => intro v0 v1 v2 v3 v4 v5 M H; cases H
  | succ n ih => intro v0 v1 v2 v3 v4 v5 M H; exact tb_X9_bestApart_75 l ih H
def f_X9_bestApart_41 (v0 : Nat) (v1 : Int32) (v2 : Int32) (M : XM) : Option (Int32 × XM) :=
  if v2 < (1 : Int32) then (f_X9_bestApart_52 v0 M) else (if v2 ≤ (1000000 : Int32) then (if x_tag M v0 = 9 + 10 then (x_lt (x_wi M v0 2 (1 : Int32)) (fun M20 => lp_X9_bestApart_75 x_fuel v0 v1 v2 (x_i M v0 2) (-1 : Int32) (0 : Int32) M20)) else none) else (f_X9_bestApart_52 v0 M))
set_option maxRecDepth 20000 in
set_option maxHeartbeats 4000000 in
theorem t_X9_bestApart_41 (l : Launch) {v0 : Nat} {v1 : Int32} {v2 : Int32} {M : XM} {q : Int32 × XM} (H : f_X9_bestApart_41 v0 v1 v2 M = some q) : AW l m_X9_bestApart 5 0 0 (x_Ri q) 0 0 41 [some (.ref v0), some (.int v1), some (.int v2), none, none, none, none, none] [] M := by
  unfold f_X9_bestApart_41 at H
  refine x_iload_n 41 2 dX9_bestApart_41 rfl rfl ?_
  refine x_iconst 42 (1 : Int32) dX9_bestApart_42 (by decide) ?_
  refine x_icmp_lt 43 52 dX9_bestApart_43 (by decide) (fun c13 => ?_) (fun c13 => ?_)
  · replace H := x_ifp c13 H
    exact x_wk (le_s (le_n (le_n (le_s (le_s (le_s (le_s (le_s le_0)))))))) (t_X9_bestApart_52 l H)
  · replace H := x_ifn c13 H
    refine x_iload_n 46 2 dX9_bestApart_46 rfl rfl ?_
    refine x_ldc 47 (1000000 : Int32) dX9_bestApart_47 lk_1342 ?_
    refine x_icmp_le 49 59 dX9_bestApart_49 (by decide) (fun c18 => ?_) (fun c18 => ?_)
    · replace H := x_ifp c18 H
      refine x_aload_n 59 0 dX9_bestApart_59 rfl rfl ?_
      obtain ⟨h19, H⟩ := x_ckp H
      refine x_getf 60 13 9 2 (.int (x_i M v0 2)) dX9_bestApart_60 lk_1032 (by decide) (by decide) rfl (fun _ => rfl) h19 ?_
      refine x_istore_n 63 3 [some (.ref v0), some (.int v1), some (.int v2), some (.int (x_i M v0 2)), none, none, none, none] dX9_bestApart_63 rfl rfl (Nat.le_of_ble_eq_true rfl) rfl ?_
      refine x_iconst 64 (-1 : Int32) dX9_bestApart_64 (by decide) ?_
      refine x_istore 65 4 [some (.ref v0), some (.int v1), some (.int v2), some (.int (x_i M v0 2)), some (.int (-1 : Int32)), none, none, none] dX9_bestApart_65 rfl (Nat.le_of_ble_eq_true rfl) rfl ?_
      refine x_iconst 67 (0 : Int32) dX9_bestApart_67 (by decide) ?_
      refine x_istore 68 5 [some (.ref v0), some (.int v1), some (.int v2), some (.int (x_i M v0 2)), some (.int (-1 : Int32)), some (.int (0 : Int32)), none, none] dX9_bestApart_68 rfl (Nat.le_of_ble_eq_true rfl) rfl ?_
      refine x_aload_n 70 0 dX9_bestApart_70 rfl rfl ?_
      refine x_iconst 71 (1 : Int32) dX9_bestApart_71 (by decide) ?_
      obtain ⟨M20, w21, H⟩ := x_lt_of H
      have h22 : x_tag M20 v0 = 9 + 10 := by rw [w21]; exact h19
      refine x_putI' 72 13 9 2 dX9_bestApart_72 lk_1032 (by decide) (by decide) rfl (Or.inl rfl) (Or.inl rfl) h19 w21 ?_
      exact t_X9_bestApart_75 l _ _ _ _ _ _ _ _ H
    · replace H := x_ifn c18 H
      exact x_wk (le_s (le_n (le_n (le_s (le_s (le_s (le_s (le_s le_0)))))))) (t_X9_bestApart_52 l H)

def f_X9_bestApart_c2 (v0 : Nat) (v1 : Int32) (v2 : Int32) (s0 : Int32) (M : XM) : Option (Int32 × XM) :=
  if s0 = 0 then (if x_tag M v0 = 9 + 10 then (x_bd (f_X9_noTen v0 (-1 : Int32) M) (fun r8 M7 => some (r8, M7))) else none) else (if x_tag M v0 = 9 + 10 then (if x_at M (x_r M v0 10) 1 v1 = true then (if (x_i M (x_r M v0 10) v1.toNatClampNeg) = (1 : Int32) then (f_X9_bestApart_41 v0 v1 v2 M) else (if (x_i M (x_r M v0 10) v1.toNatClampNeg) = (5 : Int32) then (f_X9_bestApart_41 v0 v1 v2 M) else (x_bd (f_X9_noTen v0 (-2 : Int32) M) (fun r43 M42 => some (r43, M42))))) else none) else none)
set_option maxRecDepth 20000 in
set_option maxHeartbeats 4000000 in
theorem t_X9_bestApart_c2 (l : Launch) {v0 : Nat} {v1 : Int32} {v2 : Int32} {s0 : Int32} {M : XM} {q : Int32 × XM} (H : f_X9_bestApart_c2 v0 v1 v2 s0 M = some q) : AW l m_X9_bestApart 5 0 0 (x_Ri q) 0 0 5 [some (.ref v0), some (.int v1), some (.int v2), none, none, none, none, none] [(.int s0)] M := by
  unfold f_X9_bestApart_c2 at H
  refine x_if_ne 5 14 dX9_bestApart_5 (by decide) (fun c5 => ?_) (fun c5 => ?_)
  · replace H := x_ifn c5 H
    refine x_aload_n 14 0 dX9_bestApart_14 rfl rfl ?_
    obtain ⟨h10, H⟩ := x_ckp H
    refine x_getf 15 32 9 10 (.ref (x_r M v0 10)) dX9_bestApart_15 lk_1040 (by decide) (by decide) rfl (fun _ => rfl) h10 ?_
    refine x_iload_n 18 1 dX9_bestApart_18 rfl rfl ?_
    obtain ⟨h11, H⟩ := x_ckp H
    refine x_iald 19 dX9_bestApart_19 h11 ?_
    refine x_iconst 20 (1 : Int32) dX9_bestApart_20 (by decide) ?_
    refine x_icmp_eq 21 41 dX9_bestApart_21 (by decide) (fun c12 => ?_) (fun c12 => ?_)
    · replace H := x_ifp c12 H
      exact t_X9_bestApart_41 l H
    · replace H := x_ifn c12 H
      refine x_aload_n 24 0 dX9_bestApart_24 rfl rfl ?_
      refine x_getf 25 32 9 10 (.ref (x_r M v0 10)) dX9_bestApart_25 lk_1040 (by decide) (by decide) rfl (fun _ => rfl) h10 ?_
      refine x_iload_n 28 1 dX9_bestApart_28 rfl rfl ?_
      refine x_iald 29 dX9_bestApart_29 h11 ?_
      refine x_iconst 30 (5 : Int32) dX9_bestApart_30 (by decide) ?_
      refine x_icmp_eq 31 41 dX9_bestApart_31 (by decide) (fun c41 => ?_) (fun c41 => ?_)
      · replace H := x_ifp c41 H
        exact t_X9_bestApart_41 l H
      · replace H := x_ifn c41 H
        refine x_aload_n 34 0 dX9_bestApart_34 rfl rfl ?_
        refine x_bipush 35 (-2 : Int32) dX9_bestApart_35 (by decide) ?_
        obtain ⟨r43, M42, e44, H⟩ := x_bd_of H
        refine x_callV 37 212 9 [(.int (-2 : Int32))] [] dX9_bestApart_37 (ct_X9_noTen l e44) lk_1314 lk_1316 lk_59 (by decide) h10 lk_94 lk_1317 ⟨cn_X9_noTen, (by decide), by decide⟩ rfl (Nat.le_of_ble_eq_true rfl) (Nat.le_of_ble_eq_true rfl) (Nat.le_of_ble_eq_true rfl) (x_ri ?_)
        cases H
        exact x_iret 40 dX9_bestApart_40 .int rfl rfl (Nat.le_of_ble_eq_true rfl) (Nat.le_of_ble_eq_true rfl) ⟨rfl, rfl⟩
  · replace H := x_ifp c5 H
    refine x_aload_n 8 0 dX9_bestApart_8 rfl rfl ?_
    refine x_iconst 9 (-1 : Int32) dX9_bestApart_9 (by decide) ?_
    obtain ⟨h6, H⟩ := x_ckp H
    obtain ⟨r8, M7, e9, H⟩ := x_bd_of H
    refine x_callV 10 212 9 [(.int (-1 : Int32))] [] dX9_bestApart_10 (ct_X9_noTen l e9) lk_1314 lk_1316 lk_59 (by decide) h6 lk_94 lk_1317 ⟨cn_X9_noTen, (by decide), by decide⟩ rfl (Nat.le_of_ble_eq_true rfl) (Nat.le_of_ble_eq_true rfl) (Nat.le_of_ble_eq_true rfl) (x_ri ?_)
    cases H
    exact x_iret 13 dX9_bestApart_13 .int rfl rfl (Nat.le_of_ble_eq_true rfl) (Nat.le_of_ble_eq_true rfl) ⟨rfl, rfl⟩

def f_X9_bestApart (v0 : Nat) (v1 : Int32) (v2 : Int32) (M : XM) : Option (Int32 × XM) :=
  if x_tag M v0 = 9 + 10 then (x_bd (f_X9_isCounter v0 v1 M) (f_X9_bestApart_c2 v0 v1 v2)) else none
set_option maxRecDepth 20000 in
set_option maxHeartbeats 4000000 in
theorem t_X9_bestApart (l : Launch) {v0 : Nat} {v1 : Int32} {v2 : Int32} {M : XM} {q : Int32 × XM} (H : f_X9_bestApart v0 v1 v2 M = some q) : AW l m_X9_bestApart 5 0 0 (x_Ri q) 0 0 0 [some (.ref v0), some (.int v1), some (.int v2), none, none, none, none, none] [] M := by
  unfold f_X9_bestApart at H
  refine x_aload_n 0 0 dX9_bestApart_0 rfl rfl ?_
  refine x_iload_n 1 1 dX9_bestApart_1 rfl rfl ?_
  obtain ⟨h1, H⟩ := x_ckp H
  obtain ⟨r3, M2, e4, H⟩ := x_bd_of H
  refine x_callV 2 104 9 [(.int v1)] [] dX9_bestApart_2 (ct_X9_isCounter l e4) lk_1185 lk_1187 lk_38 (by decide) h1 lk_94 lk_1188 ⟨cn_X9_isCounter, (by decide), by decide⟩ rfl (Nat.le_of_ble_eq_true rfl) (Nat.le_of_ble_eq_true rfl) (Nat.le_of_ble_eq_true rfl) (x_ri ?_)
  exact t_X9_bestApart_c2 l H

theorem ct_X9_bestApart (l : Launch) {v0 : Nat} {v1 : Int32} {v2 : Int32} {M : XM} {q : Int32 × XM} (H : f_X9_bestApart v0 v1 v2 M = some q) : Ct l m_X9_bestApart 5 0 0 [(.ref v0), (.int v1), (.int v2)] M (x_Ri q) := x_met l m_X9_bestApart 5 0 0 [(.ref v0), (.int v1), (.int v2)] M (x_Ri q) _ rfl rfl (Nat.le_of_ble_eq_true rfl) (t_X9_bestApart l H)
abbrev m_X9_surest : XU := (yX9_surest, cX9_surest, 6, (some .int))
theorem cn_X9_surest : m_X9_surest.1.cls ≠ "java/lang/invoke/MethodHandle" ∧ m_X9_surest.1.cls ≠ "java/lang/invoke/VarHandle" ∧ (parseMethodDescriptor m_X9_surest.1.desc).map (fun q => q.parameters.length) = some 1 := by decide +kernel
def f_X9_surest_25 (v0 : Nat) (M : XM) : Option (Int32 × XM) :=
  if x_tag M v0 = 9 + 10 then (x_bd (f_X9_no v0 (-6 : Int32) M) (fun r9 M8 => some (r9, M8))) else none
set_option maxRecDepth 20000 in
set_option maxHeartbeats 4000000 in
theorem t_X9_surest_25 (l : Launch) {v0 : Nat} {M : XM} {q : Int32 × XM} (H : f_X9_surest_25 v0 M = some q) : AW l m_X9_surest 5 0 0 (x_Ri q) 0 0 25 [some (.ref v0), none, none, none, none, none] [] M := by
  unfold f_X9_surest_25 at H
  refine x_aload_n 25 0 dX9_surest_25 rfl rfl ?_
  refine x_bipush 26 (-6 : Int32) dX9_surest_26 (by decide) ?_
  obtain ⟨h7, H⟩ := x_ckp H
  obtain ⟨r9, M8, e10, H⟩ := x_bd_of H
  refine x_callV 28 100 9 [(.int (-6 : Int32))] [] dX9_surest_28 (ct_X9_no l e10) lk_1165 lk_1167 lk_37 (by decide) h7 lk_94 lk_1168 ⟨cn_X9_no, (by decide), by decide⟩ rfl (Nat.le_of_ble_eq_true rfl) (Nat.le_of_ble_eq_true rfl) (Nat.le_of_ble_eq_true rfl) (x_ri ?_)
  cases H
  exact x_iret 31 dX9_surest_31 .int rfl rfl (Nat.le_of_ble_eq_true rfl) (Nat.le_of_ble_eq_true rfl) ⟨rfl, rfl⟩

def f_X9_surest_72 (κ39 : Nat → Int32 → Int32 → Int32 → Int32 → XM → Option (Int32 × XM)) (v0 : Nat) (v1 : Int32) (v2 : Int32) (v3 : Int32) (v4 : Int32) (M : XM) : Option (Int32 × XM) :=
  κ39 v0 v1 v2 v3 (v4 + (1 : Int32)) M
set_option maxRecDepth 20000 in
set_option maxHeartbeats 4000000 in
theorem t_X9_surest_72 (l : Launch) {κ39 : Nat → Int32 → Int32 → Int32 → Int32 → XM → Option (Int32 × XM)} {v0 : Nat} {v1 : Int32} {v2 : Int32} {v3 : Int32} {v4 : Int32} {M : XM} {q : Int32 × XM} (hκ39 : ∀ (v0 : Nat) (v1 : Int32) (v2 : Int32) (v3 : Int32) (v4 : Int32) (M : XM), κ39 v0 v1 v2 v3 v4 M = some q → AW l m_X9_surest 5 0 0 (x_Ri q) 0 0 39 [some (.ref v0), some (.int v1), some (.int v2), some (.int v3), some (.int v4), none] [] M) (H : f_X9_surest_72 κ39 v0 v1 v2 v3 v4 M = some q) : AW l m_X9_surest 5 0 0 (x_Ri q) 0 0 72 [some (.ref v0), some (.int v1), some (.int v2), some (.int v3), some (.int v4), none] [] M := by
  unfold f_X9_surest_72 at H
  refine x_iinc 72 4 (v4 + (1 : Int32)) [some (.ref v0), some (.int v1), some (.int v2), some (.int v3), some (.int (v4 + (1 : Int32))), none] dX9_surest_72 rfl (congrArg (fun z : Int32 => v4 + z) (show Int32.ofInt (1) = (1 : Int32) by decide)) rfl (Nat.le_of_ble_eq_true rfl) rfl ?_
  refine x_goto 75 39 dX9_surest_75 (by decide) ?_
  exact hκ39 _ _ _ _ _ _ H

def f_X9_surest_c52 (κ39 : Nat → Int32 → Int32 → Int32 → Int32 → XM → Option (Int32 × XM)) (v0 : Nat) (v1 : Int32) (v2 : Int32) (v3 : Int32) (v4 : Int32) (s0 : Int32) (M : XM) : Option (Int32 × XM) :=
  if v3 < s0 then (f_X9_surest_72 κ39 v0 v1 v4 s0 v4 M) else (f_X9_surest_72 κ39 v0 v1 v2 v3 v4 M)
set_option maxRecDepth 20000 in
set_option maxHeartbeats 4000000 in
theorem t_X9_surest_c52 (l : Launch) {κ39 : Nat → Int32 → Int32 → Int32 → Int32 → XM → Option (Int32 × XM)} {v0 : Nat} {v1 : Int32} {v2 : Int32} {v3 : Int32} {v4 : Int32} {s0 : Int32} {M : XM} {q : Int32 × XM} (hκ39 : ∀ (v0 : Nat) (v1 : Int32) (v2 : Int32) (v3 : Int32) (v4 : Int32) (M : XM), κ39 v0 v1 v2 v3 v4 M = some q → AW l m_X9_surest 5 0 0 (x_Ri q) 0 0 39 [some (.ref v0), some (.int v1), some (.int v2), some (.int v3), some (.int v4), none] [] M) (H : f_X9_surest_c52 κ39 v0 v1 v2 v3 v4 s0 M = some q) : AW l m_X9_surest 5 0 0 (x_Ri q) 0 0 55 [some (.ref v0), some (.int v1), some (.int v2), some (.int v3), some (.int v4), none] [(.int s0)] M := by
  unfold f_X9_surest_c52 at H
  refine x_istore 55 5 [some (.ref v0), some (.int v1), some (.int v2), some (.int v3), some (.int v4), some (.int s0)] dX9_surest_55 rfl (Nat.le_of_ble_eq_true rfl) rfl ?_
  refine x_iload 57 5 dX9_surest_57 rfl ?_
  refine x_iload_n 59 3 dX9_surest_59 rfl rfl ?_
  refine x_icmp_gt 60 66 dX9_surest_60 (by decide) (fun c17 => ?_) (fun c17 => ?_)
  · replace H := x_ifp c17 H
    refine x_iload 66 4 dX9_surest_66 rfl ?_
    refine x_istore_n 68 2 [some (.ref v0), some (.int v1), some (.int v4), some (.int v3), some (.int v4), some (.int s0)] dX9_surest_68 rfl rfl (Nat.le_of_ble_eq_true rfl) rfl ?_
    refine x_iload 69 5 dX9_surest_69 rfl ?_
    refine x_istore_n 71 3 [some (.ref v0), some (.int v1), some (.int v4), some (.int s0), some (.int v4), some (.int s0)] dX9_surest_71 rfl rfl (Nat.le_of_ble_eq_true rfl) rfl ?_
    exact x_wk (le_s (le_s (le_s (le_s (le_s (le_n le_0)))))) (t_X9_surest_72 l hκ39 H)
  · replace H := x_ifn c17 H
    refine x_goto 63 72 dX9_surest_63 (by decide) ?_
    exact x_wk (le_s (le_s (le_s (le_s (le_s (le_n le_0)))))) (t_X9_surest_72 l hκ39 H)

def bd_X9_surest_39 (κ39 : Nat → Int32 → Int32 → Int32 → Int32 → XM → Option (Int32 × XM)) (v0 : Nat) (v1 : Int32) (v2 : Int32) (v3 : Int32) (v4 : Int32) (M : XM) : Option (Int32 × XM) :=
  if x_tag M v0 = 9 + 10 then (if (x_i M v0 0) ≤ v4 then (some (v2, M)) else (x_bd (f_X9_chanceOf v0 v4 v1 M) (f_X9_surest_c52 κ39 v0 v1 v2 v3 v4))) else none
set_option maxRecDepth 20000 in
set_option maxHeartbeats 4000000 in
theorem tb_X9_surest_39 (l : Launch) {κ39 : Nat → Int32 → Int32 → Int32 → Int32 → XM → Option (Int32 × XM)} {v0 : Nat} {v1 : Int32} {v2 : Int32} {v3 : Int32} {v4 : Int32} {M : XM} {q : Int32 × XM} (hκ39 : ∀ (v0 : Nat) (v1 : Int32) (v2 : Int32) (v3 : Int32) (v4 : Int32) (M : XM), κ39 v0 v1 v2 v3 v4 M = some q → AW l m_X9_surest 5 0 0 (x_Ri q) 0 0 39 [some (.ref v0), some (.int v1), some (.int v2), some (.int v3), some (.int v4), none] [] M) (H : bd_X9_surest_39 κ39 v0 v1 v2 v3 v4 M = some q) : AW l m_X9_surest 5 0 0 (x_Ri q) 0 0 39 [some (.ref v0), some (.int v1), some (.int v2), some (.int v3), some (.int v4), none] [] M := by
  unfold bd_X9_surest_39 at H
  refine x_iload 39 4 dX9_surest_39 rfl ?_
  refine x_aload_n 41 0 dX9_surest_41 rfl rfl ?_
  obtain ⟨h12, H⟩ := x_ckp H
  refine x_getf 42 93 9 0 (.int (x_i M v0 0)) dX9_surest_42 lk_1030 (by decide) (by decide) rfl (fun _ => rfl) h12 ?_
  refine x_icmp_ge 45 78 dX9_surest_45 (by decide) (fun c13 => ?_) (fun c13 => ?_)
  · replace H := x_ifp c13 H
    refine x_iload_n 78 2 dX9_surest_78 rfl rfl ?_
    cases H
    exact x_iret 79 dX9_surest_79 .int rfl rfl (Nat.le_of_ble_eq_true rfl) (Nat.le_of_ble_eq_true rfl) ⟨rfl, rfl⟩
  · replace H := x_ifn c13 H
    refine x_aload_n 48 0 dX9_surest_48 rfl rfl ?_
    refine x_iload 49 4 dX9_surest_49 rfl ?_
    refine x_iload_n 51 1 dX9_surest_51 rfl rfl ?_
    obtain ⟨r15, M14, e16, H⟩ := x_bd_of H
    refine x_callV 52 236 9 [(.int v4), (.int v1)] [] dX9_surest_52 (ct_X9_chanceOf l e16) lk_1326 lk_1328 lk_61 (by decide) h12 lk_94 lk_1329 ⟨cn_X9_chanceOf, (by decide), by decide⟩ rfl (Nat.le_of_ble_eq_true rfl) (Nat.le_of_ble_eq_true rfl) (Nat.le_of_ble_eq_true rfl) (x_ri ?_)
    exact t_X9_surest_c52 l hκ39 H

def lp_X9_surest_39 (n : Nat) : Nat → Int32 → Int32 → Int32 → Int32 → XM → Option (Int32 × XM) := x_rec (fun _ _ _ _ _ _ => none) (bd_X9_surest_39) n
theorem t_X9_surest_39 (l : Launch) {q : Int32 × XM} : ∀ (n : Nat) (v0 : Nat) (v1 : Int32) (v2 : Int32) (v3 : Int32) (v4 : Int32) (M : XM), lp_X9_surest_39 n v0 v1 v2 v3 v4 M = some q → AW l m_X9_surest 5 0 0 (x_Ri q) 0 0 39 [some (.ref v0), some (.int v1), some (.int v2), some (.int v3), some (.int v4), none] [] M := by
  intro n
  induction n with
  | zero => intro v0 v1 v2 v3 v4 M H; cases H
  | succ n ih => intro v0 v1 v2 v3 v4 M H; exact tb_X9_surest_39 l ih H
def f_X9_surest (v0 : Nat) (v1 : Int32) (M : XM) : Option (Int32 × XM) :=
  if x_tag M v0 = 9 + 10 then (if (x_i M v0 0) = 0 then (x_bd (f_X9_no v0 (-5 : Int32) M) (fun r4 M3 => some (r4, M3))) else (if v1 < 0 then (f_X9_surest_25 v0 M) else (if v1 ≤ (400 : Int32) then (lp_X9_surest_39 x_fuel v0 v1 (0 : Int32) (-1 : Int32) (0 : Int32) M) else (f_X9_surest_25 v0 M)))) else none
set_option maxRecDepth 20000 in
set_option maxHeartbeats 4000000 in
theorem t_X9_surest (l : Launch) {v0 : Nat} {v1 : Int32} {M : XM} {q : Int32 × XM} (H : f_X9_surest v0 v1 M = some q) : AW l m_X9_surest 5 0 0 (x_Ri q) 0 0 0 [some (.ref v0), some (.int v1), none, none, none, none] [] M := by
  unfold f_X9_surest at H
  refine x_aload_n 0 0 dX9_surest_0 rfl rfl ?_
  obtain ⟨h1, H⟩ := x_ckp H
  refine x_getf 1 93 9 0 (.int (x_i M v0 0)) dX9_surest_1 lk_1030 (by decide) (by decide) rfl (fun _ => rfl) h1 ?_
  refine x_if_ne 4 14 dX9_surest_4 (by decide) (fun c2 => ?_) (fun c2 => ?_)
  · replace H := x_ifn c2 H
    refine x_iload_n 14 1 dX9_surest_14 rfl rfl ?_
    refine x_if_lt 15 25 dX9_surest_15 (by decide) (fun c6 => ?_) (fun c6 => ?_)
    · replace H := x_ifp c6 H
      exact x_wk (le_s (le_n (le_s (le_s (le_s (le_s le_0)))))) (t_X9_surest_25 l H)
    · replace H := x_ifn c6 H
      refine x_iload_n 18 1 dX9_surest_18 rfl rfl ?_
      refine x_sipush 19 (400 : Int32) dX9_surest_19 (by decide) ?_
      refine x_icmp_le 22 32 dX9_surest_22 (by decide) (fun c11 => ?_) (fun c11 => ?_)
      · replace H := x_ifp c11 H
        refine x_iconst 32 (0 : Int32) dX9_surest_32 (by decide) ?_
        refine x_istore_n 33 2 [some (.ref v0), some (.int v1), some (.int (0 : Int32)), none, none, none] dX9_surest_33 rfl rfl (Nat.le_of_ble_eq_true rfl) rfl ?_
        refine x_iconst 34 (-1 : Int32) dX9_surest_34 (by decide) ?_
        refine x_istore_n 35 3 [some (.ref v0), some (.int v1), some (.int (0 : Int32)), some (.int (-1 : Int32)), none, none] dX9_surest_35 rfl rfl (Nat.le_of_ble_eq_true rfl) rfl ?_
        refine x_iconst 36 (0 : Int32) dX9_surest_36 (by decide) ?_
        refine x_istore 37 4 [some (.ref v0), some (.int v1), some (.int (0 : Int32)), some (.int (-1 : Int32)), some (.int (0 : Int32)), none] dX9_surest_37 rfl (Nat.le_of_ble_eq_true rfl) rfl ?_
        exact t_X9_surest_39 l _ _ _ _ _ _ _ H
      · replace H := x_ifn c11 H
        exact x_wk (le_s (le_n (le_s (le_s (le_s (le_s le_0)))))) (t_X9_surest_25 l H)
  · replace H := x_ifp c2 H
    refine x_aload_n 7 0 dX9_surest_7 rfl rfl ?_
    refine x_bipush 8 (-5 : Int32) dX9_surest_8 (by decide) ?_
    obtain ⟨r4, M3, e5, H⟩ := x_bd_of H
    refine x_callV 10 100 9 [(.int (-5 : Int32))] [] dX9_surest_10 (ct_X9_no l e5) lk_1165 lk_1167 lk_37 (by decide) h1 lk_94 lk_1168 ⟨cn_X9_no, (by decide), by decide⟩ rfl (Nat.le_of_ble_eq_true rfl) (Nat.le_of_ble_eq_true rfl) (Nat.le_of_ble_eq_true rfl) (x_ri ?_)
    cases H
    exact x_iret 13 dX9_surest_13 .int rfl rfl (Nat.le_of_ble_eq_true rfl) (Nat.le_of_ble_eq_true rfl) ⟨rfl, rfl⟩

theorem ct_X9_surest (l : Launch) {v0 : Nat} {v1 : Int32} {M : XM} {q : Int32 × XM} (H : f_X9_surest v0 v1 M = some q) : Ct l m_X9_surest 5 0 0 [(.ref v0), (.int v1)] M (x_Ri q) := x_met l m_X9_surest 5 0 0 [(.ref v0), (.int v1)] M (x_Ri q) _ rfl rfl (Nat.le_of_ble_eq_true rfl) (t_X9_surest l H)
abbrev m_X9_throughWith : XU := (yX9_throughWith, cX9_throughWith, 5, (some .int))
theorem cn_X9_throughWith : m_X9_throughWith.1.cls ≠ "java/lang/invoke/MethodHandle" ∧ m_X9_throughWith.1.cls ≠ "java/lang/invoke/VarHandle" ∧ (parseMethodDescriptor m_X9_throughWith.1.desc).map (fun q => q.parameters.length) = some 2 := by decide +kernel
def f_X9_throughWith_47 (κ10 : Nat → Int32 → Int32 → Int32 → Int32 → XM → Option (Int32 × XM)) (v0 : Nat) (v1 : Int32) (v2 : Int32) (v4 : Int32) (s0 : Int32) (M : XM) : Option (Int32 × XM) :=
  κ10 v0 v1 v2 s0 v4 M
set_option maxRecDepth 20000 in
set_option maxHeartbeats 4000000 in
theorem t_X9_throughWith_47 (l : Launch) {κ10 : Nat → Int32 → Int32 → Int32 → Int32 → XM → Option (Int32 × XM)} {v0 : Nat} {v1 : Int32} {v2 : Int32} {v4 : Int32} {s0 : Int32} {M : XM} {q : Int32 × XM} (hκ10 : ∀ (v0 : Nat) (v1 : Int32) (v2 : Int32) (v3 : Int32) (v4 : Int32) (M : XM), κ10 v0 v1 v2 v3 v4 M = some q → AW l m_X9_throughWith 2 0 0 (x_Ri q) 0 0 10 [some (.ref v0), some (.int v1), some (.int v2), some (.int v3), some (.int v4)] [] M) (H : f_X9_throughWith_47 κ10 v0 v1 v2 v4 s0 M = some q) : AW l m_X9_throughWith 2 0 0 (x_Ri q) 0 0 47 [some (.ref v0), some (.int v1), some (.int v2), none, some (.int v4)] [(.int s0)] M := by
  unfold f_X9_throughWith_47 at H
  refine x_istore_n 47 3 [some (.ref v0), some (.int v1), some (.int v2), some (.int s0), some (.int v4)] dX9_throughWith_47 rfl rfl (Nat.le_of_ble_eq_true rfl) rfl ?_
  refine x_goto 48 10 dX9_throughWith_48 (by decide) ?_
  exact hκ10 _ _ _ _ _ _ H

def f_X9_throughWith_c38 (κ10 : Nat → Int32 → Int32 → Int32 → Int32 → XM → Option (Int32 × XM)) (v0 : Nat) (v1 : Int32) (v2 : Int32) (v4 : Int32) (s0 : Int32) (M : XM) : Option (Int32 × XM) :=
  f_X9_throughWith_47 κ10 v0 v1 v2 v4 s0 M
set_option maxRecDepth 20000 in
set_option maxHeartbeats 4000000 in
theorem t_X9_throughWith_c38 (l : Launch) {κ10 : Nat → Int32 → Int32 → Int32 → Int32 → XM → Option (Int32 × XM)} {v0 : Nat} {v1 : Int32} {v2 : Int32} {v4 : Int32} {s0 : Int32} {M : XM} {q : Int32 × XM} (hκ10 : ∀ (v0 : Nat) (v1 : Int32) (v2 : Int32) (v3 : Int32) (v4 : Int32) (M : XM), κ10 v0 v1 v2 v3 v4 M = some q → AW l m_X9_throughWith 2 0 0 (x_Ri q) 0 0 10 [some (.ref v0), some (.int v1), some (.int v2), some (.int v3), some (.int v4)] [] M) (H : f_X9_throughWith_c38 κ10 v0 v1 v2 v4 s0 M = some q) : AW l m_X9_throughWith 2 0 0 (x_Ri q) 0 0 41 [some (.ref v0), some (.int v1), some (.int v2), none, some (.int v4)] [(.int s0)] M := by
  unfold f_X9_throughWith_c38 at H
  refine x_goto 41 47 dX9_throughWith_41 (by decide) ?_
  exact t_X9_throughWith_47 l hκ10 H

def bd_X9_throughWith_10 (κ10 : Nat → Int32 → Int32 → Int32 → Int32 → XM → Option (Int32 × XM)) (v0 : Nat) (v1 : Int32) (v2 : Int32) (v3 : Int32) (v4 : Int32) (M : XM) : Option (Int32 × XM) :=
  if x_tag M v0 = 9 + 10 then (if (x_i M v0 1) ≤ v3 then (some (v4, M)) else (if (v4 + (1 : Int32)) = v2 then (if x_at M (x_r M v0 14) 1 v1 = true then (x_bd (f_X9_left v0 v1 v3 ((x_i M (x_r M v0 14) v1.toNatClampNeg) + (1 : Int32)) M) (f_X9_throughWith_c38 κ10 v0 v1 v2 (v4 + (1 : Int32)))) else none) else (f_X9_throughWith_47 κ10 v0 v1 v2 (v4 + (1 : Int32)) (v3 + (1 : Int32)) M))) else none
set_option maxRecDepth 20000 in
set_option maxHeartbeats 4000000 in
theorem tb_X9_throughWith_10 (l : Launch) {κ10 : Nat → Int32 → Int32 → Int32 → Int32 → XM → Option (Int32 × XM)} {v0 : Nat} {v1 : Int32} {v2 : Int32} {v3 : Int32} {v4 : Int32} {M : XM} {q : Int32 × XM} (hκ10 : ∀ (v0 : Nat) (v1 : Int32) (v2 : Int32) (v3 : Int32) (v4 : Int32) (M : XM), κ10 v0 v1 v2 v3 v4 M = some q → AW l m_X9_throughWith 2 0 0 (x_Ri q) 0 0 10 [some (.ref v0), some (.int v1), some (.int v2), some (.int v3), some (.int v4)] [] M) (H : bd_X9_throughWith_10 κ10 v0 v1 v2 v3 v4 M = some q) : AW l m_X9_throughWith 2 0 0 (x_Ri q) 0 0 10 [some (.ref v0), some (.int v1), some (.int v2), some (.int v3), some (.int v4)] [] M := by
  unfold bd_X9_throughWith_10 at H
  refine x_iload_n 10 3 dX9_throughWith_10 rfl rfl ?_
  refine x_aload_n 11 0 dX9_throughWith_11 rfl rfl ?_
  obtain ⟨h3, H⟩ := x_ckp H
  refine x_getf 12 7 9 1 (.int (x_i M v0 1)) dX9_throughWith_12 lk_1031 (by decide) (by decide) rfl (fun _ => rfl) h3 ?_
  refine x_icmp_ge 15 51 dX9_throughWith_15 (by decide) (fun c4 => ?_) (fun c4 => ?_)
  · replace H := x_ifp c4 H
    refine x_iload 51 4 dX9_throughWith_51 rfl ?_
    cases H
    exact x_iret 53 dX9_throughWith_53 .int rfl rfl (Nat.le_of_ble_eq_true rfl) (Nat.le_of_ble_eq_true rfl) ⟨rfl, rfl⟩
  · replace H := x_ifn c4 H
    refine x_iinc 18 4 (v4 + (1 : Int32)) [some (.ref v0), some (.int v1), some (.int v2), some (.int v3), some (.int (v4 + (1 : Int32)))] dX9_throughWith_18 rfl (congrArg (fun z : Int32 => v4 + z) (show Int32.ofInt (1) = (1 : Int32) by decide)) rfl (Nat.le_of_ble_eq_true rfl) rfl ?_
    refine x_iload 21 4 dX9_throughWith_21 rfl ?_
    refine x_iload_n 23 2 dX9_throughWith_23 rfl rfl ?_
    refine x_icmp_ne 24 44 dX9_throughWith_24 (by decide) (fun c5 => ?_) (fun c5 => ?_)
    · replace H := x_ifn c5 H
      refine x_iload_n 44 3 dX9_throughWith_44 rfl rfl ?_
      refine x_iconst 45 (1 : Int32) dX9_throughWith_45 (by decide) ?_
      refine x_iadd 46 dX9_throughWith_46 ?_
      exact x_wk (le_s (le_s (le_s (le_n (le_s le_0))))) (t_X9_throughWith_47 l hκ10 H)
    · replace H := x_ifp c5 H
      refine x_aload_n 27 0 dX9_throughWith_27 rfl rfl ?_
      refine x_iload_n 28 1 dX9_throughWith_28 rfl rfl ?_
      refine x_iload_n 29 3 dX9_throughWith_29 rfl rfl ?_
      refine x_aload_n 30 0 dX9_throughWith_30 rfl rfl ?_
      refine x_getf 31 44 9 14 (.ref (x_r M v0 14)) dX9_throughWith_31 lk_1044 (by decide) (by decide) rfl (fun _ => rfl) h3 ?_
      refine x_iload_n 34 1 dX9_throughWith_34 rfl rfl ?_
      obtain ⟨h6, H⟩ := x_ckp H
      refine x_iald 35 dX9_throughWith_35 h6 ?_
      refine x_iconst 36 (1 : Int32) dX9_throughWith_36 (by decide) ?_
      refine x_iadd 37 dX9_throughWith_37 ?_
      obtain ⟨r8, M7, e9, H⟩ := x_bd_of H
      refine x_callV 38 183 9 [(.int v1), (.int v3), (.int ((x_i M (x_r M v0 14) v1.toNatClampNeg) + (1 : Int32)))] [] dX9_throughWith_38 (ct_X9_left l e9) lk_1273 lk_1275 lk_53 (by decide) h3 lk_94 lk_1276 ⟨cn_X9_left, (by decide), by decide⟩ rfl (Nat.le_of_ble_eq_true rfl) (Nat.le_of_ble_eq_true rfl) (Nat.le_of_ble_eq_true rfl) (x_ri ?_)
      exact x_wk (le_s (le_s (le_s (le_n (le_s le_0))))) (t_X9_throughWith_c38 l hκ10 H)

def lp_X9_throughWith_10 (n : Nat) : Nat → Int32 → Int32 → Int32 → Int32 → XM → Option (Int32 × XM) := x_rec (fun _ _ _ _ _ _ => none) (bd_X9_throughWith_10) n
theorem t_X9_throughWith_10 (l : Launch) {q : Int32 × XM} : ∀ (n : Nat) (v0 : Nat) (v1 : Int32) (v2 : Int32) (v3 : Int32) (v4 : Int32) (M : XM), lp_X9_throughWith_10 n v0 v1 v2 v3 v4 M = some q → AW l m_X9_throughWith 2 0 0 (x_Ri q) 0 0 10 [some (.ref v0), some (.int v1), some (.int v2), some (.int v3), some (.int v4)] [] M := by
  intro n
  induction n with
  | zero => intro v0 v1 v2 v3 v4 M H; cases H
  | succ n ih => intro v0 v1 v2 v3 v4 M H; exact tb_X9_throughWith_10 l ih H
def f_X9_throughWith (v0 : Nat) (v1 : Int32) (v2 : Int32) (M : XM) : Option (Int32 × XM) :=
  if x_tag M v0 = 9 + 10 then (if x_at M (x_r M v0 12) 1 v1 = true then (lp_X9_throughWith_10 x_fuel v0 v1 v2 (x_i M (x_r M v0 12) v1.toNatClampNeg) (0 : Int32) M) else none) else none
set_option maxRecDepth 20000 in
set_option maxHeartbeats 4000000 in
theorem t_X9_throughWith (l : Launch) {v0 : Nat} {v1 : Int32} {v2 : Int32} {M : XM} {q : Int32 × XM} (H : f_X9_throughWith v0 v1 v2 M = some q) : AW l m_X9_throughWith 2 0 0 (x_Ri q) 0 0 0 [some (.ref v0), some (.int v1), some (.int v2), none, none] [] M := by
  unfold f_X9_throughWith at H
  refine x_aload_n 0 0 dX9_throughWith_0 rfl rfl ?_
  obtain ⟨h1, H⟩ := x_ckp H
  refine x_getf 1 38 9 12 (.ref (x_r M v0 12)) dX9_throughWith_1 lk_1042 (by decide) (by decide) rfl (fun _ => rfl) h1 ?_
  refine x_iload_n 4 1 dX9_throughWith_4 rfl rfl ?_
  obtain ⟨h2, H⟩ := x_ckp H
  refine x_iald 5 dX9_throughWith_5 h2 ?_
  refine x_istore_n 6 3 [some (.ref v0), some (.int v1), some (.int v2), some (.int (x_i M (x_r M v0 12) v1.toNatClampNeg)), none] dX9_throughWith_6 rfl rfl (Nat.le_of_ble_eq_true rfl) rfl ?_
  refine x_iconst 7 (0 : Int32) dX9_throughWith_7 (by decide) ?_
  refine x_istore 8 4 [some (.ref v0), some (.int v1), some (.int v2), some (.int (x_i M (x_r M v0 12) v1.toNatClampNeg)), some (.int (0 : Int32))] dX9_throughWith_8 rfl (Nat.le_of_ble_eq_true rfl) rfl ?_
  exact t_X9_throughWith_10 l _ _ _ _ _ _ _ H

theorem ct_X9_throughWith (l : Launch) {v0 : Nat} {v1 : Int32} {v2 : Int32} {M : XM} {q : Int32 × XM} (H : f_X9_throughWith v0 v1 v2 M = some q) : Ct l m_X9_throughWith 2 0 0 [(.ref v0), (.int v1), (.int v2)] M (x_Ri q) := x_met l m_X9_throughWith 2 0 0 [(.ref v0), (.int v1), (.int v2)] M (x_Ri q) _ rfl rfl (Nat.le_of_ble_eq_true rfl) (t_X9_throughWith l H)
theorem lk_1375 : Cond.code yX9_throughWith cX9_throughWith 5 (some .int) ∈ x_TB := x_tb (k := 1375) (by decide +kernel) rfl
theorem lk_1372 : Cond.methodLink RX9 242 yX9_throughWith ∈ x_TB := x_tb (k := 1372) (by decide +kernel) rfl
theorem lk_68 : Cond.selects RX9 yX9_throughWith yX9_throughWith ∈ x_TB := x_tb (k := 68) (by decide +kernel) rfl
theorem lk_1374 : Cond.instanceMethod yX9_throughWith ∈ x_TB := x_tb (k := 1374) (by decide +kernel) rfl
abbrev m_X9_when : XU := (yX9_when, cX9_when, 8, (some .int))
theorem cn_X9_when : m_X9_when.1.cls ≠ "java/lang/invoke/MethodHandle" ∧ m_X9_when.1.cls ≠ "java/lang/invoke/VarHandle" ∧ (parseMethodDescriptor m_X9_when.1.desc).map (fun q => q.parameters.length) = some 3 := by decide +kernel
def f_X9_when_23 (v0 : Nat) (M : XM) : Option (Int32 × XM) :=
  if x_tag M v0 = 9 + 10 then (x_bd (f_X9_no v0 (-5 : Int32) M) (fun r13 M12 => some (r13, M12))) else none
set_option maxRecDepth 20000 in
set_option maxHeartbeats 4000000 in
theorem t_X9_when_23 (l : Launch) {v0 : Nat} {M : XM} {q : Int32 × XM} (H : f_X9_when_23 v0 M = some q) : AW l m_X9_when 3 0 0 (x_Ri q) 0 0 23 [some (.ref v0), none, none, none, none, none, none, none] [] M := by
  unfold f_X9_when_23 at H
  refine x_aload_n 23 0 dX9_when_23 rfl rfl ?_
  refine x_bipush 24 (-5 : Int32) dX9_when_24 (by decide) ?_
  obtain ⟨h11, H⟩ := x_ckp H
  obtain ⟨r13, M12, e14, H⟩ := x_bd_of H
  refine x_callV 26 100 9 [(.int (-5 : Int32))] [] dX9_when_26 (ct_X9_no l e14) lk_1165 lk_1167 lk_37 (by decide) h11 lk_94 lk_1168 ⟨cn_X9_no, (by decide), by decide⟩ rfl (Nat.le_of_ble_eq_true rfl) (Nat.le_of_ble_eq_true rfl) (Nat.le_of_ble_eq_true rfl) (x_ri ?_)
  cases H
  exact x_iret 29 dX9_when_29 .int rfl rfl (Nat.le_of_ble_eq_true rfl) (Nat.le_of_ble_eq_true rfl) ⟨rfl, rfl⟩

def f_X9_when_54 (v0 : Nat) (M : XM) : Option (Int32 × XM) :=
  if x_tag M v0 = 9 + 10 then (x_bd (f_X9_no v0 (-6 : Int32) M) (fun r19 M18 => some (r19, M18))) else none
set_option maxRecDepth 20000 in
set_option maxHeartbeats 4000000 in
theorem t_X9_when_54 (l : Launch) {v0 : Nat} {M : XM} {q : Int32 × XM} (H : f_X9_when_54 v0 M = some q) : AW l m_X9_when 3 0 0 (x_Ri q) 0 0 54 [some (.ref v0), none, none, none, none, none, none, none] [] M := by
  unfold f_X9_when_54 at H
  refine x_aload_n 54 0 dX9_when_54 rfl rfl ?_
  refine x_bipush 55 (-6 : Int32) dX9_when_55 (by decide) ?_
  obtain ⟨h17, H⟩ := x_ckp H
  obtain ⟨r19, M18, e20, H⟩ := x_bd_of H
  refine x_callV 57 100 9 [(.int (-6 : Int32))] [] dX9_when_57 (ct_X9_no l e20) lk_1165 lk_1167 lk_37 (by decide) h17 lk_94 lk_1168 ⟨cn_X9_no, (by decide), by decide⟩ rfl (Nat.le_of_ble_eq_true rfl) (Nat.le_of_ble_eq_true rfl) (Nat.le_of_ble_eq_true rfl) (x_ri ?_)
  cases H
  exact x_iret 60 dX9_when_60 .int rfl rfl (Nat.le_of_ble_eq_true rfl) (Nat.le_of_ble_eq_true rfl) ⟨rfl, rfl⟩

def f_X9_when_116 (κ67 : Nat → Int32 → Int32 → Int32 → Int32 → Int32 → XM → Option (Int32 × XM)) (v0 : Nat) (v1 : Int32) (v2 : Int32) (v3 : Int32) (v4 : Int32) (v5 : Int32) (M : XM) : Option (Int32 × XM) :=
  κ67 v0 v1 v2 v3 v4 (v5 + (1 : Int32)) M
set_option maxRecDepth 20000 in
set_option maxHeartbeats 4000000 in
theorem t_X9_when_116 (l : Launch) {κ67 : Nat → Int32 → Int32 → Int32 → Int32 → Int32 → XM → Option (Int32 × XM)} {v0 : Nat} {v1 : Int32} {v2 : Int32} {v3 : Int32} {v4 : Int32} {v5 : Int32} {M : XM} {q : Int32 × XM} (hκ67 : ∀ (v0 : Nat) (v1 : Int32) (v2 : Int32) (v3 : Int32) (v4 : Int32) (v5 : Int32) (M : XM), κ67 v0 v1 v2 v3 v4 v5 M = some q → AW l m_X9_when 3 0 0 (x_Ri q) 0 0 67 [some (.ref v0), some (.int v1), some (.int v2), some (.int v3), some (.int v4), some (.int v5), none, none] [] M) (H : f_X9_when_116 κ67 v0 v1 v2 v3 v4 v5 M = some q) : AW l m_X9_when 3 0 0 (x_Ri q) 0 0 116 [some (.ref v0), some (.int v1), some (.int v2), some (.int v3), some (.int v4), some (.int v5), none, none] [] M := by
  unfold f_X9_when_116 at H
  refine x_iinc 116 5 (v5 + (1 : Int32)) [some (.ref v0), some (.int v1), some (.int v2), some (.int v3), some (.int v4), some (.int (v5 + (1 : Int32))), none, none] dX9_when_116 rfl (congrArg (fun z : Int32 => v5 + z) (show Int32.ofInt (1) = (1 : Int32) by decide)) rfl (Nat.le_of_ble_eq_true rfl) rfl ?_
  refine x_goto 119 67 dX9_when_119 (by decide) ?_
  exact hκ67 _ _ _ _ _ _ _ H

def f_X9_when_112 (κ67 : Nat → Int32 → Int32 → Int32 → Int32 → Int32 → XM → Option (Int32 × XM)) (v0 : Nat) (v1 : Int32) (v2 : Int32) (v3 : Int32) (v5 : Int32) (M : XM) : Option (Int32 × XM) :=
  f_X9_when_116 κ67 v0 v1 v2 v3 v5 v5 M
set_option maxRecDepth 20000 in
set_option maxHeartbeats 4000000 in
theorem t_X9_when_112 (l : Launch) {κ67 : Nat → Int32 → Int32 → Int32 → Int32 → Int32 → XM → Option (Int32 × XM)} {v0 : Nat} {v1 : Int32} {v2 : Int32} {v3 : Int32} {v5 : Int32} {M : XM} {q : Int32 × XM} (hκ67 : ∀ (v0 : Nat) (v1 : Int32) (v2 : Int32) (v3 : Int32) (v4 : Int32) (v5 : Int32) (M : XM), κ67 v0 v1 v2 v3 v4 v5 M = some q → AW l m_X9_when 3 0 0 (x_Ri q) 0 0 67 [some (.ref v0), some (.int v1), some (.int v2), some (.int v3), some (.int v4), some (.int v5), none, none] [] M) (H : f_X9_when_112 κ67 v0 v1 v2 v3 v5 M = some q) : AW l m_X9_when 3 0 0 (x_Ri q) 0 0 112 [some (.ref v0), some (.int v1), some (.int v2), some (.int v3), none, some (.int v5), none, none] [] M := by
  unfold f_X9_when_112 at H
  refine x_iload 112 5 dX9_when_112 rfl ?_
  refine x_istore 114 4 [some (.ref v0), some (.int v1), some (.int v2), some (.int v3), some (.int v5), some (.int v5), none, none] dX9_when_114 rfl (Nat.le_of_ble_eq_true rfl) rfl ?_
  exact t_X9_when_116 l hκ67 H

def f_X9_when_c86 (κ67 : Nat → Int32 → Int32 → Int32 → Int32 → Int32 → XM → Option (Int32 × XM)) (v0 : Nat) (v1 : Int32) (v2 : Int32) (v3 : Int32) (v4 : Int32) (v5 : Int32) (v6 : Int32) (s0 : Int32) (M : XM) : Option (Int32 × XM) :=
  if v3 = 0 then (if s0 < v6 then (f_X9_when_116 κ67 v0 v1 v2 v3 v4 v5 M) else (f_X9_when_112 κ67 v0 v1 v2 v3 v5 M)) else (if v6 ≤ s0 then (f_X9_when_116 κ67 v0 v1 v2 v3 v4 v5 M) else (f_X9_when_112 κ67 v0 v1 v2 v3 v5 M))
set_option maxRecDepth 20000 in
set_option maxHeartbeats 4000000 in
theorem t_X9_when_c86 (l : Launch) {κ67 : Nat → Int32 → Int32 → Int32 → Int32 → Int32 → XM → Option (Int32 × XM)} {v0 : Nat} {v1 : Int32} {v2 : Int32} {v3 : Int32} {v4 : Int32} {v5 : Int32} {v6 : Int32} {s0 : Int32} {M : XM} {q : Int32 × XM} (hκ67 : ∀ (v0 : Nat) (v1 : Int32) (v2 : Int32) (v3 : Int32) (v4 : Int32) (v5 : Int32) (M : XM), κ67 v0 v1 v2 v3 v4 v5 M = some q → AW l m_X9_when 3 0 0 (x_Ri q) 0 0 67 [some (.ref v0), some (.int v1), some (.int v2), some (.int v3), some (.int v4), some (.int v5), none, none] [] M) (H : f_X9_when_c86 κ67 v0 v1 v2 v3 v4 v5 v6 s0 M = some q) : AW l m_X9_when 3 0 0 (x_Ri q) 0 0 89 [some (.ref v0), some (.int v1), some (.int v2), some (.int v3), some (.int v4), some (.int v5), some (.int v6), none] [(.int s0)] M := by
  unfold f_X9_when_c86 at H
  refine x_istore 89 7 [some (.ref v0), some (.int v1), some (.int v2), some (.int v3), some (.int v4), some (.int v5), some (.int v6), some (.int s0)] dX9_when_89 rfl (Nat.le_of_ble_eq_true rfl) rfl ?_
  refine x_iload_n 91 3 dX9_when_91 rfl rfl ?_
  refine x_if_ne 92 105 dX9_when_92 (by decide) (fun c34 => ?_) (fun c34 => ?_)
  · replace H := x_ifn c34 H
    refine x_iload 105 6 dX9_when_105 rfl ?_
    refine x_iload 107 7 dX9_when_107 rfl ?_
    refine x_icmp_le 109 116 dX9_when_109 (by decide) (fun c36 => ?_) (fun c36 => ?_)
    · replace H := x_ifp c36 H
      exact x_wk (le_s (le_s (le_s (le_s (le_s (le_s (le_n (le_n le_0)))))))) (t_X9_when_116 l hκ67 H)
    · replace H := x_ifn c36 H
      exact x_wk (le_s (le_s (le_s (le_s (le_n (le_s (le_n (le_n le_0)))))))) (t_X9_when_112 l hκ67 H)
  · replace H := x_ifp c34 H
    refine x_iload 95 6 dX9_when_95 rfl ?_
    refine x_iload 97 7 dX9_when_97 rfl ?_
    refine x_icmp_gt 99 116 dX9_when_99 (by decide) (fun c35 => ?_) (fun c35 => ?_)
    · replace H := x_ifp c35 H
      exact x_wk (le_s (le_s (le_s (le_s (le_s (le_s (le_n (le_n le_0)))))))) (t_X9_when_116 l hκ67 H)
    · replace H := x_ifn c35 H
      refine x_goto 102 112 dX9_when_102 (by decide) ?_
      exact x_wk (le_s (le_s (le_s (le_s (le_n (le_s (le_n (le_n le_0)))))))) (t_X9_when_112 l hκ67 H)

def f_X9_when_c77 (κ67 : Nat → Int32 → Int32 → Int32 → Int32 → Int32 → XM → Option (Int32 × XM)) (v0 : Nat) (v1 : Int32) (v2 : Int32) (v3 : Int32) (v4 : Int32) (v5 : Int32) (s0 : Int32) (M : XM) : Option (Int32 × XM) :=
  if x_tag M v0 = 9 + 10 then (x_bd (f_X9_throughWith v0 v1 v4 M) (f_X9_when_c86 κ67 v0 v1 v2 v3 v4 v5 s0)) else none
set_option maxRecDepth 20000 in
set_option maxHeartbeats 4000000 in
theorem t_X9_when_c77 (l : Launch) {κ67 : Nat → Int32 → Int32 → Int32 → Int32 → Int32 → XM → Option (Int32 × XM)} {v0 : Nat} {v1 : Int32} {v2 : Int32} {v3 : Int32} {v4 : Int32} {v5 : Int32} {s0 : Int32} {M : XM} {q : Int32 × XM} (hκ67 : ∀ (v0 : Nat) (v1 : Int32) (v2 : Int32) (v3 : Int32) (v4 : Int32) (v5 : Int32) (M : XM), κ67 v0 v1 v2 v3 v4 v5 M = some q → AW l m_X9_when 3 0 0 (x_Ri q) 0 0 67 [some (.ref v0), some (.int v1), some (.int v2), some (.int v3), some (.int v4), some (.int v5), none, none] [] M) (H : f_X9_when_c77 κ67 v0 v1 v2 v3 v4 v5 s0 M = some q) : AW l m_X9_when 3 0 0 (x_Ri q) 0 0 80 [some (.ref v0), some (.int v1), some (.int v2), some (.int v3), some (.int v4), some (.int v5), none, none] [(.int s0)] M := by
  unfold f_X9_when_c77 at H
  refine x_istore 80 6 [some (.ref v0), some (.int v1), some (.int v2), some (.int v3), some (.int v4), some (.int v5), some (.int s0), none] dX9_when_80 rfl (Nat.le_of_ble_eq_true rfl) rfl ?_
  refine x_aload_n 82 0 dX9_when_82 rfl rfl ?_
  refine x_iload_n 83 1 dX9_when_83 rfl rfl ?_
  refine x_iload 84 4 dX9_when_84 rfl ?_
  obtain ⟨h30, H⟩ := x_ckp H
  obtain ⟨r32, M31, e33, H⟩ := x_bd_of H
  refine x_callV 86 242 9 [(.int v1), (.int v4)] [] dX9_when_86 (ct_X9_throughWith l e33) lk_1372 lk_1374 lk_68 (by decide) h30 lk_94 lk_1375 ⟨cn_X9_throughWith, (by decide), by decide⟩ rfl (Nat.le_of_ble_eq_true rfl) (Nat.le_of_ble_eq_true rfl) (Nat.le_of_ble_eq_true rfl) (x_ri ?_)
  exact t_X9_when_c86 l hκ67 H

def bd_X9_when_67 (κ67 : Nat → Int32 → Int32 → Int32 → Int32 → Int32 → XM → Option (Int32 × XM)) (v0 : Nat) (v1 : Int32) (v2 : Int32) (v3 : Int32) (v4 : Int32) (v5 : Int32) (M : XM) : Option (Int32 × XM) :=
  if v2 < v5 then (some (v4, M)) else (if x_tag M v0 = 9 + 10 then (x_bd (f_X9_throughWith v0 v1 v5 M) (f_X9_when_c77 κ67 v0 v1 v2 v3 v4 v5)) else none)
set_option maxRecDepth 20000 in
set_option maxHeartbeats 4000000 in
theorem tb_X9_when_67 (l : Launch) {κ67 : Nat → Int32 → Int32 → Int32 → Int32 → Int32 → XM → Option (Int32 × XM)} {v0 : Nat} {v1 : Int32} {v2 : Int32} {v3 : Int32} {v4 : Int32} {v5 : Int32} {M : XM} {q : Int32 × XM} (hκ67 : ∀ (v0 : Nat) (v1 : Int32) (v2 : Int32) (v3 : Int32) (v4 : Int32) (v5 : Int32) (M : XM), κ67 v0 v1 v2 v3 v4 v5 M = some q → AW l m_X9_when 3 0 0 (x_Ri q) 0 0 67 [some (.ref v0), some (.int v1), some (.int v2), some (.int v3), some (.int v4), some (.int v5), none, none] [] M) (H : bd_X9_when_67 κ67 v0 v1 v2 v3 v4 v5 M = some q) : AW l m_X9_when 3 0 0 (x_Ri q) 0 0 67 [some (.ref v0), some (.int v1), some (.int v2), some (.int v3), some (.int v4), some (.int v5), none, none] [] M := by
  unfold bd_X9_when_67 at H
  refine x_iload 67 5 dX9_when_67 rfl ?_
  refine x_iload_n 69 2 dX9_when_69 rfl rfl ?_
  refine x_icmp_gt 70 122 dX9_when_70 (by decide) (fun c25 => ?_) (fun c25 => ?_)
  · replace H := x_ifp c25 H
    refine x_iload 122 4 dX9_when_122 rfl ?_
    cases H
    exact x_iret 124 dX9_when_124 .int rfl rfl (Nat.le_of_ble_eq_true rfl) (Nat.le_of_ble_eq_true rfl) ⟨rfl, rfl⟩
  · replace H := x_ifn c25 H
    refine x_aload_n 73 0 dX9_when_73 rfl rfl ?_
    refine x_iload_n 74 1 dX9_when_74 rfl rfl ?_
    refine x_iload 75 5 dX9_when_75 rfl ?_
    obtain ⟨h26, H⟩ := x_ckp H
    obtain ⟨r28, M27, e29, H⟩ := x_bd_of H
    refine x_callV 77 242 9 [(.int v1), (.int v5)] [] dX9_when_77 (ct_X9_throughWith l e29) lk_1372 lk_1374 lk_68 (by decide) h26 lk_94 lk_1375 ⟨cn_X9_throughWith, (by decide), by decide⟩ rfl (Nat.le_of_ble_eq_true rfl) (Nat.le_of_ble_eq_true rfl) (Nat.le_of_ble_eq_true rfl) (x_ri ?_)
    exact t_X9_when_c77 l hκ67 H

def lp_X9_when_67 (n : Nat) : Nat → Int32 → Int32 → Int32 → Int32 → Int32 → XM → Option (Int32 × XM) := x_rec (fun _ _ _ _ _ _ _ => none) (bd_X9_when_67) n
theorem t_X9_when_67 (l : Launch) {q : Int32 × XM} : ∀ (n : Nat) (v0 : Nat) (v1 : Int32) (v2 : Int32) (v3 : Int32) (v4 : Int32) (v5 : Int32) (M : XM), lp_X9_when_67 n v0 v1 v2 v3 v4 v5 M = some q → AW l m_X9_when 3 0 0 (x_Ri q) 0 0 67 [some (.ref v0), some (.int v1), some (.int v2), some (.int v3), some (.int v4), some (.int v5), none, none] [] M := by
  intro n
  induction n with
  | zero => intro v0 v1 v2 v3 v4 v5 M H; cases H
  | succ n ih => intro v0 v1 v2 v3 v4 v5 M H; exact tb_X9_when_67 l ih H
def f_X9_when_c2 (v0 : Nat) (v1 : Int32) (v2 : Int32) (v3 : Int32) (s0 : Int32) (M : XM) : Option (Int32 × XM) :=
  if s0 = 0 then (if x_tag M v0 = 9 + 10 then (x_bd (f_X9_no v0 (-1 : Int32) M) (fun r8 M7 => some (r8, M7))) else none) else (if v3 < 0 then (f_X9_when_23 v0 M) else (if v3 ≤ (1 : Int32) then (if v2 < (1 : Int32) then (f_X9_when_54 v0 M) else (if (100 : Int32) < v2 then (f_X9_when_54 v0 M) else (if x_tag M v0 = 9 + 10 then (if x_at M (x_r M v0 12) 1 v1 = true then (if (x_i M (x_r M v0 12) v1.toNatClampNeg) = (x_i M v0 1) then (f_X9_when_54 v0 M) else (lp_X9_when_67 x_fuel v0 v1 v2 v3 (1 : Int32) (2 : Int32) M)) else none) else none))) else (f_X9_when_23 v0 M)))
set_option maxRecDepth 20000 in
set_option maxHeartbeats 4000000 in
theorem t_X9_when_c2 (l : Launch) {v0 : Nat} {v1 : Int32} {v2 : Int32} {v3 : Int32} {s0 : Int32} {M : XM} {q : Int32 × XM} (H : f_X9_when_c2 v0 v1 v2 v3 s0 M = some q) : AW l m_X9_when 3 0 0 (x_Ri q) 0 0 5 [some (.ref v0), some (.int v1), some (.int v2), some (.int v3), none, none, none, none] [(.int s0)] M := by
  unfold f_X9_when_c2 at H
  refine x_if_ne 5 14 dX9_when_5 (by decide) (fun c5 => ?_) (fun c5 => ?_)
  · replace H := x_ifn c5 H
    refine x_iload_n 14 3 dX9_when_14 rfl rfl ?_
    refine x_if_lt 15 23 dX9_when_15 (by decide) (fun c10 => ?_) (fun c10 => ?_)
    · replace H := x_ifp c10 H
      exact x_wk (le_s (le_n (le_n (le_n (le_s (le_s (le_s (le_s le_0)))))))) (t_X9_when_23 l H)
    · replace H := x_ifn c10 H
      refine x_iload_n 18 3 dX9_when_18 rfl rfl ?_
      refine x_iconst 19 (1 : Int32) dX9_when_19 (by decide) ?_
      refine x_icmp_le 20 30 dX9_when_20 (by decide) (fun c15 => ?_) (fun c15 => ?_)
      · replace H := x_ifp c15 H
        refine x_iload_n 30 2 dX9_when_30 rfl rfl ?_
        refine x_iconst 31 (1 : Int32) dX9_when_31 (by decide) ?_
        refine x_icmp_lt 32 54 dX9_when_32 (by decide) (fun c16 => ?_) (fun c16 => ?_)
        · replace H := x_ifp c16 H
          exact x_wk (le_s (le_n (le_n (le_n (le_s (le_s (le_s (le_s le_0)))))))) (t_X9_when_54 l H)
        · replace H := x_ifn c16 H
          refine x_iload_n 35 2 dX9_when_35 rfl rfl ?_
          refine x_bipush 36 (100 : Int32) dX9_when_36 (by decide) ?_
          refine x_icmp_gt 38 54 dX9_when_38 (by decide) (fun c21 => ?_) (fun c21 => ?_)
          · replace H := x_ifp c21 H
            exact x_wk (le_s (le_n (le_n (le_n (le_s (le_s (le_s (le_s le_0)))))))) (t_X9_when_54 l H)
          · replace H := x_ifn c21 H
            refine x_aload_n 41 0 dX9_when_41 rfl rfl ?_
            obtain ⟨h22, H⟩ := x_ckp H
            refine x_getf 42 38 9 12 (.ref (x_r M v0 12)) dX9_when_42 lk_1042 (by decide) (by decide) rfl (fun _ => rfl) h22 ?_
            refine x_iload_n 45 1 dX9_when_45 rfl rfl ?_
            obtain ⟨h23, H⟩ := x_ckp H
            refine x_iald 46 dX9_when_46 h23 ?_
            refine x_aload_n 47 0 dX9_when_47 rfl rfl ?_
            refine x_getf 48 7 9 1 (.int (x_i M v0 1)) dX9_when_48 lk_1031 (by decide) (by decide) rfl (fun _ => rfl) h22 ?_
            refine x_icmp_ne 51 61 dX9_when_51 (by decide) (fun c24 => ?_) (fun c24 => ?_)
            · replace H := x_ifn c24 H
              refine x_iconst 61 (1 : Int32) dX9_when_61 (by decide) ?_
              refine x_istore 62 4 [some (.ref v0), some (.int v1), some (.int v2), some (.int v3), some (.int (1 : Int32)), none, none, none] dX9_when_62 rfl (Nat.le_of_ble_eq_true rfl) rfl ?_
              refine x_iconst 64 (2 : Int32) dX9_when_64 (by decide) ?_
              refine x_istore 65 5 [some (.ref v0), some (.int v1), some (.int v2), some (.int v3), some (.int (1 : Int32)), some (.int (2 : Int32)), none, none] dX9_when_65 rfl (Nat.le_of_ble_eq_true rfl) rfl ?_
              exact t_X9_when_67 l _ _ _ _ _ _ _ _ H
            · replace H := x_ifp c24 H
              exact x_wk (le_s (le_n (le_n (le_n (le_s (le_s (le_s (le_s le_0)))))))) (t_X9_when_54 l H)
      · replace H := x_ifn c15 H
        exact x_wk (le_s (le_n (le_n (le_n (le_s (le_s (le_s (le_s le_0)))))))) (t_X9_when_23 l H)
  · replace H := x_ifp c5 H
    refine x_aload_n 8 0 dX9_when_8 rfl rfl ?_
    refine x_iconst 9 (-1 : Int32) dX9_when_9 (by decide) ?_
    obtain ⟨h6, H⟩ := x_ckp H
    obtain ⟨r8, M7, e9, H⟩ := x_bd_of H
    refine x_callV 10 100 9 [(.int (-1 : Int32))] [] dX9_when_10 (ct_X9_no l e9) lk_1165 lk_1167 lk_37 (by decide) h6 lk_94 lk_1168 ⟨cn_X9_no, (by decide), by decide⟩ rfl (Nat.le_of_ble_eq_true rfl) (Nat.le_of_ble_eq_true rfl) (Nat.le_of_ble_eq_true rfl) (x_ri ?_)
    cases H
    exact x_iret 13 dX9_when_13 .int rfl rfl (Nat.le_of_ble_eq_true rfl) (Nat.le_of_ble_eq_true rfl) ⟨rfl, rfl⟩

def f_X9_when (v0 : Nat) (v1 : Int32) (v2 : Int32) (v3 : Int32) (M : XM) : Option (Int32 × XM) :=
  if x_tag M v0 = 9 + 10 then (x_bd (f_X9_isCounter v0 v1 M) (f_X9_when_c2 v0 v1 v2 v3)) else none
set_option maxRecDepth 20000 in
set_option maxHeartbeats 4000000 in
theorem t_X9_when (l : Launch) {v0 : Nat} {v1 : Int32} {v2 : Int32} {v3 : Int32} {M : XM} {q : Int32 × XM} (H : f_X9_when v0 v1 v2 v3 M = some q) : AW l m_X9_when 3 0 0 (x_Ri q) 0 0 0 [some (.ref v0), some (.int v1), some (.int v2), some (.int v3), none, none, none, none] [] M := by
  unfold f_X9_when at H
  refine x_aload_n 0 0 dX9_when_0 rfl rfl ?_
  refine x_iload_n 1 1 dX9_when_1 rfl rfl ?_
  obtain ⟨h1, H⟩ := x_ckp H
  obtain ⟨r3, M2, e4, H⟩ := x_bd_of H
  refine x_callV 2 104 9 [(.int v1)] [] dX9_when_2 (ct_X9_isCounter l e4) lk_1185 lk_1187 lk_38 (by decide) h1 lk_94 lk_1188 ⟨cn_X9_isCounter, (by decide), by decide⟩ rfl (Nat.le_of_ble_eq_true rfl) (Nat.le_of_ble_eq_true rfl) (Nat.le_of_ble_eq_true rfl) (x_ri ?_)
  exact t_X9_when_c2 l H

theorem ct_X9_when (l : Launch) {v0 : Nat} {v1 : Int32} {v2 : Int32} {v3 : Int32} {M : XM} {q : Int32 × XM} (H : f_X9_when v0 v1 v2 v3 M = some q) : Ct l m_X9_when 3 0 0 [(.ref v0), (.int v1), (.int v2), (.int v3)] M (x_Ri q) := x_met l m_X9_when 3 0 0 [(.ref v0), (.int v1), (.int v2), (.int v3)] M (x_Ri q) _ rfl rfl (Nat.le_of_ble_eq_true rfl) (t_X9_when l H)
