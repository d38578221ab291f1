abbrev m_X9_longest : XU := (yX9_longest, cX9_longest, 9, (some .int))
theorem cn_X9_longest : m_X9_longest.1.cls ≠ "java/lang/invoke/MethodHandle" ∧ m_X9_longest.1.cls ≠ "java/lang/invoke/VarHandle" ∧ (parseMethodDescriptor m_X9_longest.1.desc).map (fun q => q.parameters.length) = some 2 := by decide +kernel
def f_X9_longest_23 (v0 : Nat) (M : XM) : Option (Int32 × XM) :=
  if x_tag M v0 = 9 + 10 then (x_bd (f_X9_noTen v0 (-6 : Int32) M) (fun r13 M12 => some (r13, M12))) else none
set_option maxRecDepth 20000 in
set_option maxHeartbeats 4000000 in
theorem t_X9_longest_23 (l : Launch) {v0 : Nat} {M : XM} {q : Int32 × XM} (H : f_X9_longest_23 v0 M = some q) : AW l m_X9_longest 3 0 0 (x_Ri q) 0 0 23 [some (.ref v0), none, none, none, none, none, none, none, none] [] M := by
  unfold f_X9_longest_23 at H
  refine x_aload_n 23 0 dX9_longest_23 rfl rfl ?_
  refine x_bipush 24 (-6 : Int32) dX9_longest_24 (by decide) ?_
  obtain ⟨h11, H⟩ := x_ckp H
  obtain ⟨r13, M12, e14, H⟩ := x_bd_of H
  refine x_callV 26 212 9 [(.int (-6 : Int32))] [] dX9_longest_26 (ct_X9_noTen l e14) lk_1314 lk_1316 lk_59 (by decide) h11 lk_94 lk_1317 ⟨cn_X9_noTen, (by decide), by decide⟩ rfl (Nat.le_of_ble_eq_true rfl) (Nat.le_of_ble_eq_true rfl) (Nat.le_of_ble_eq_true rfl) (x_ri ?_)
  cases H
  exact x_iret 29 dX9_longest_29 .int rfl rfl (Nat.le_of_ble_eq_true rfl) (Nat.le_of_ble_eq_true rfl) ⟨rfl, rfl⟩

def bd_X9_longest_223 (κ64 : Nat → Int32 → Int32 → Int32 → Int32 → XM → Option (Int32 × XM)) (κ223 : Nat → Int32 → Int32 → Int32 → Int32 → Int32 → XM → Option (Int32 × XM)) (v0 : Nat) (v1 : Int32) (v2 : Int32) (v3 : Int32) (v4 : Int32) (v5 : Int32) (M : XM) : Option (Int32 × XM) :=
  if x_tag M v0 = 9 + 10 then (if (((10 : Int32) * (x_i M v0 1)) + (10 : Int32)) ≤ v5 then (κ64 v0 v1 v2 v3 (v4 + (1 : Int32)) M) else (if x_at M (x_r M v0 36) 1 v5 = true then (if x_at M (x_r M v0 35) 1 v5 = true then (x_lt (x_wi M (x_r M v0 35) v5.toNatClampNeg (x_i M (x_r M v0 36) v5.toNatClampNeg)) (fun M35 => κ223 v0 v1 v2 v3 v4 (v5 + (1 : Int32)) M35)) else none) else none)) else none
set_option maxRecDepth 20000 in
set_option maxHeartbeats 4000000 in
theorem tb_X9_longest_223 (l : Launch) {κ64 : Nat → Int32 → Int32 → Int32 → Int32 → XM → Option (Int32 × XM)} {κ223 : Nat → Int32 → Int32 → Int32 → Int32 → Int32 → XM → Option (Int32 × XM)} {v0 : Nat} {v1 : Int32} {v2 : Int32} {v3 : Int32} {v4 : Int32} {v5 : Int32} {M : XM} {q : Int32 × XM} (hκ64 : ∀ (v0 : Nat) (v1 : Int32) (v2 : Int32) (v3 : Int32) (v4 : Int32) (M : XM), κ64 v0 v1 v2 v3 v4 M = some q → AW l m_X9_longest 3 0 0 (x_Ri q) 0 0 64 [some (.ref v0), some (.int v1), some (.int v2), some (.int v3), some (.int v4), none, none, none, none] [] M) (hκ223 : ∀ (v0 : Nat) (v1 : Int32) (v2 : Int32) (v3 : Int32) (v4 : Int32) (v5 : Int32) (M : XM), κ223 v0 v1 v2 v3 v4 v5 M = some q → AW l m_X9_longest 3 0 0 (x_Ri q) 0 0 223 [some (.ref v0), some (.int v1), some (.int v2), some (.int v3), some (.int v4), some (.int v5), none, none, none] [] M) (H : bd_X9_longest_223 κ64 κ223 v0 v1 v2 v3 v4 v5 M = some q) : AW l m_X9_longest 3 0 0 (x_Ri q) 0 0 223 [some (.ref v0), some (.int v1), some (.int v2), some (.int v3), some (.int v4), some (.int v5), none, none, none] [] M := by
  unfold bd_X9_longest_223 at H
  refine x_iload 223 5 dX9_longest_223 rfl ?_
  refine x_bipush 225 (10 : Int32) dX9_longest_225 (by decide) ?_
  refine x_aload_n 227 0 dX9_longest_227 rfl rfl ?_
  obtain ⟨h31, H⟩ := x_ckp H
  refine x_getf 228 7 9 1 (.int (x_i M v0 1)) dX9_longest_228 lk_1031 (by decide) (by decide) rfl (fun _ => rfl) h31 ?_
  refine x_imul 231 dX9_longest_231 ?_
  refine x_bipush 232 (10 : Int32) dX9_longest_232 (by decide) ?_
  refine x_iadd 234 dX9_longest_234 ?_
  refine x_icmp_ge 235 258 dX9_longest_235 (by decide) (fun c32 => ?_) (fun c32 => ?_)
  · replace H := x_ifp c32 H
    refine x_iinc 258 4 (v4 + (1 : Int32)) [some (.ref v0), some (.int v1), some (.int v2), some (.int v3), some (.int (v4 + (1 : Int32))), some (.int v5), none, none, none] dX9_longest_258 rfl (congrArg (fun z : Int32 => v4 + z) (show Int32.ofInt (1) = (1 : Int32) by decide)) rfl (Nat.le_of_ble_eq_true rfl) rfl ?_
    refine x_goto 261 64 dX9_longest_261 (by decide) ?_
    exact x_wk (le_s (le_s (le_s (le_s (le_s (le_n (le_s (le_s (le_s le_0))))))))) (hκ64 _ _ _ _ _ _ H)
  · replace H := x_ifn c32 H
    refine x_aload_n 238 0 dX9_longest_238 rfl rfl ?_
    refine x_getf 239 81 9 35 (.ref (x_r M v0 35)) dX9_longest_239 lk_1065 (by decide) (by decide) rfl (fun _ => rfl) h31 ?_
    refine x_iload 242 5 dX9_longest_242 rfl ?_
    refine x_aload_n 244 0 dX9_longest_244 rfl rfl ?_
    refine x_getf 245 84 9 36 (.ref (x_r M v0 36)) dX9_longest_245 lk_1066 (by decide) (by decide) rfl (fun _ => rfl) h31 ?_
    refine x_iload 248 5 dX9_longest_248 rfl ?_
    obtain ⟨h33, H⟩ := x_ckp H
    refine x_iald 250 dX9_longest_250 h33 ?_
    obtain ⟨h34, H⟩ := x_ckp H
    obtain ⟨M35, w36, H⟩ := x_lt_of H
    have h37 : x_tag M35 v0 = 9 + 10 := by rw [w36]; exact h31
    have h38 : x_at M35 (x_r M v0 36) 1 v5 = true := by rw [w36]; exact h33
    have h39 : x_tag M35 (x_r M v0 36) = 1 := by rw [w36]; exact (x_at_1 h33)
    have h40 : x_at M35 (x_r M v0 35) 1 v5 = true := by rw [w36]; exact h34
    have h41 : x_tag M35 (x_r M v0 35) = 1 := by rw [w36]; exact (x_at_1 h34)
    refine x_iast' 251 dX9_longest_251 h34 w36 ?_
    refine x_iinc 252 5 (v5 + (1 : Int32)) [some (.ref v0), some (.int v1), some (.int v2), some (.int v3), some (.int v4), some (.int (v5 + (1 : Int32))), none, none, none] dX9_longest_252 rfl (congrArg (fun z : Int32 => v5 + z) (show Int32.ofInt (1) = (1 : Int32) by decide)) rfl (Nat.le_of_ble_eq_true rfl) rfl ?_
    refine x_goto 255 223 dX9_longest_255 (by decide) ?_
    exact hκ223 _ _ _ _ _ _ _ H

def lp_X9_longest_223 (κ64 : Nat → Int32 → Int32 → Int32 → Int32 → XM → Option (Int32 × XM)) (n : Nat) : Nat → Int32 → Int32 → Int32 → Int32 → Int32 → XM → Option (Int32 × XM) := x_rec (fun _ _ _ _ _ _ _ => none) (bd_X9_longest_223 κ64) n
theorem t_X9_longest_223 (l : Launch) {κ64 : Nat → Int32 → Int32 → Int32 → Int32 → XM → Option (Int32 × XM)} {q : Int32 × XM} (hκ64 : ∀ (v0 : Nat) (v1 : Int32) (v2 : Int32) (v3 : Int32) (v4 : Int32) (M : XM), κ64 v0 v1 v2 v3 v4 M = some q → AW l m_X9_longest 3 0 0 (x_Ri q) 0 0 64 [some (.ref v0), some (.int v1), some (.int v2), some (.int v3), some (.int v4), none, none, none, none] [] M) : ∀ (n : Nat) (v0 : Nat) (v1 : Int32) (v2 : Int32) (v3 : Int32) (v4 : Int32) (v5 : Int32) (M : XM), lp_X9_longest_223 κ64 n v0 v1 v2 v3 v4 v5 M = some q → AW l m_X9_longest 3 0 0 (x_Ri q) 0 0 223 [some (.ref v0), some (.int v1), some (.int v2), some (.int v3), some (.int v4), some (.int v5), none, none, none] [] M := by
  intro n
  induction n with
  | zero => intro v0 v1 v2 v3 v4 v5 M H; cases H
  | succ n ih => intro v0 v1 v2 v3 v4 v5 M H; exact tb_X9_longest_223 l hκ64 ih H
def f_X9_longest_206 (κ64 : Nat → Int32 → Int32 → Int32 → Int32 → XM → Option (Int32 × XM)) (κ110 : Nat → Int32 → Int32 → Int32 → Int32 → Int32 → XM → Option (Int32 × XM)) (κ118 : Nat → Int32 → Int32 → Int32 → Int32 → Int32 → Int32 → XM → Option (Int32 × XM)) (v0 : Nat) (v1 : Int32) (v2 : Int32) (v3 : Int32) (v4 : Int32) (v5 : Int32) (v6 : Int32) (s0 : Int32) (s1 : Int32) (s2 : Int32) (s3 : Nat) (M : XM) : Option (Int32 × XM) :=
  if x_at M s3 1 s2 = true then (x_lt (x_wi M s3 s2.toNatClampNeg (s1 + s0)) (fun M49 => κ118 v0 v1 v2 v3 v4 v5 (v6 + (1 : Int32)) M49)) else none
set_option maxRecDepth 20000 in
set_option maxHeartbeats 4000000 in
theorem t_X9_longest_206 (l : Launch) {κ64 : Nat → Int32 → Int32 → Int32 → Int32 → XM → Option (Int32 × XM)} {κ110 : Nat → Int32 → Int32 → Int32 → Int32 → Int32 → XM → Option (Int32 × XM)} {κ118 : Nat → Int32 → Int32 → Int32 → Int32 → Int32 → Int32 → XM → Option (Int32 × XM)} {v0 : Nat} {v1 : Int32} {v2 : Int32} {v3 : Int32} {v4 : Int32} {v5 : Int32} {v6 : Int32} {s0 : Int32} {s1 : Int32} {s2 : Int32} {s3 : Nat} {M : XM} {q : Int32 × XM} (hκ64 : ∀ (v0 : Nat) (v1 : Int32) (v2 : Int32) (v3 : Int32) (v4 : Int32) (M : XM), κ64 v0 v1 v2 v3 v4 M = some q → AW l m_X9_longest 3 0 0 (x_Ri q) 0 0 64 [some (.ref v0), some (.int v1), some (.int v2), some (.int v3), some (.int v4), none, none, none, none] [] M) (hκ110 : ∀ (v0 : Nat) (v1 : Int32) (v2 : Int32) (v3 : Int32) (v4 : Int32) (v5 : Int32) (M : XM), κ110 v0 v1 v2 v3 v4 v5 M = some q → AW l m_X9_longest 3 0 0 (x_Ri q) 0 0 110 [some (.ref v0), some (.int v1), some (.int v2), some (.int v3), some (.int v4), some (.int v5), none, none, none] [] M) (hκ118 : ∀ (v0 : Nat) (v1 : Int32) (v2 : Int32) (v3 : Int32) (v4 : Int32) (v5 : Int32) (v6 : Int32) (M : XM), κ118 v0 v1 v2 v3 v4 v5 v6 M = some q → AW l m_X9_longest 3 0 0 (x_Ri q) 0 0 118 [some (.ref v0), some (.int v1), some (.int v2), some (.int v3), some (.int v4), some (.int v5), some (.int v6), none, none] [] M) (H : f_X9_longest_206 κ64 κ110 κ118 v0 v1 v2 v3 v4 v5 v6 s0 s1 s2 s3 M = some q) : AW l m_X9_longest 3 0 0 (x_Ri q) 0 0 206 [some (.ref v0), some (.int v1), some (.int v2), some (.int v3), some (.int v4), some (.int v5), some (.int v6), none, none] [(.int s0), (.int s1), (.int s2), (.ref s3)] M := by
  unfold f_X9_longest_206 at H
  refine x_iadd 206 dX9_longest_206 ?_
  obtain ⟨h48, H⟩ := x_ckp H
  obtain ⟨M49, w50, H⟩ := x_lt_of H
  have h51 : x_at M49 s3 1 s2 = true := by rw [w50]; exact h48
  have h52 : x_tag M49 s3 = 1 := by rw [w50]; exact (x_at_1 h48)
  refine x_iast' 207 dX9_longest_207 h48 w50 ?_
  refine x_iinc 208 6 (v6 + (1 : Int32)) [some (.ref v0), some (.int v1), some (.int v2), some (.int v3), some (.int v4), some (.int v5), some (.int (v6 + (1 : Int32))), none, none] dX9_longest_208 rfl (congrArg (fun z : Int32 => v6 + z) (show Int32.ofInt (1) = (1 : Int32) by decide)) rfl (Nat.le_of_ble_eq_true rfl) rfl ?_
  refine x_goto 211 118 dX9_longest_211 (by decide) ?_
  exact hκ118 _ _ _ _ _ _ _ _ H

def f_X9_longest_177 (κ64 : Nat → Int32 → Int32 → Int32 → Int32 → XM → Option (Int32 × XM)) (κ110 : Nat → Int32 → Int32 → Int32 → Int32 → Int32 → XM → Option (Int32 × XM)) (κ118 : Nat → Int32 → Int32 → Int32 → Int32 → Int32 → Int32 → XM → Option (Int32 × XM)) (v0 : Nat) (v1 : Int32) (v2 : Int32) (v3 : Int32) (v4 : Int32) (v5 : Int32) (v6 : Int32) (v7 : Int32) (s0 : Int32) (M : XM) : Option (Int32 × XM) :=
  if x_tag M v0 = 9 + 10 then (if s0 ≤ v7 then (f_X9_longest_206 κ64 κ110 κ118 v0 v1 v2 v3 v4 v5 v6 v7 (1 : Int32) (((10 : Int32) * v5) + v6) (x_r M v0 36) M) else (f_X9_longest_206 κ64 κ110 κ118 v0 v1 v2 v3 v4 v5 v6 s0 (1 : Int32) (((10 : Int32) * v5) + v6) (x_r M v0 36) M)) else none
set_option maxRecDepth 20000 in
set_option maxHeartbeats 4000000 in
theorem t_X9_longest_177 (l : Launch) {κ64 : Nat → Int32 → Int32 → Int32 → Int32 → XM → Option (Int32 × XM)} {κ110 : Nat → Int32 → Int32 → Int32 → Int32 → Int32 → XM → Option (Int32 × XM)} {κ118 : Nat → Int32 → Int32 → Int32 → Int32 → Int32 → Int32 → XM → Option (Int32 × XM)} {v0 : Nat} {v1 : Int32} {v2 : Int32} {v3 : Int32} {v4 : Int32} {v5 : Int32} {v6 : Int32} {v7 : Int32} {s0 : Int32} {M : XM} {q : Int32 × XM} (hκ64 : ∀ (v0 : Nat) (v1 : Int32) (v2 : Int32) (v3 : Int32) (v4 : Int32) (M : XM), κ64 v0 v1 v2 v3 v4 M = some q → AW l m_X9_longest 3 0 0 (x_Ri q) 0 0 64 [some (.ref v0), some (.int v1), some (.int v2), some (.int v3), some (.int v4), none, none, none, none] [] M) (hκ110 : ∀ (v0 : Nat) (v1 : Int32) (v2 : Int32) (v3 : Int32) (v4 : Int32) (v5 : Int32) (M : XM), κ110 v0 v1 v2 v3 v4 v5 M = some q → AW l m_X9_longest 3 0 0 (x_Ri q) 0 0 110 [some (.ref v0), some (.int v1), some (.int v2), some (.int v3), some (.int v4), some (.int v5), none, none, none] [] M) (hκ118 : ∀ (v0 : Nat) (v1 : Int32) (v2 : Int32) (v3 : Int32) (v4 : Int32) (v5 : Int32) (v6 : Int32) (M : XM), κ118 v0 v1 v2 v3 v4 v5 v6 M = some q → AW l m_X9_longest 3 0 0 (x_Ri q) 0 0 118 [some (.ref v0), some (.int v1), some (.int v2), some (.int v3), some (.int v4), some (.int v5), some (.int v6), none, none] [] M) (H : f_X9_longest_177 κ64 κ110 κ118 v0 v1 v2 v3 v4 v5 v6 v7 s0 M = some q) : AW l m_X9_longest 3 0 0 (x_Ri q) 0 0 177 [some (.ref v0), some (.int v1), some (.int v2), some (.int v3), some (.int v4), some (.int v5), some (.int v6), some (.int v7), none] [(.int s0)] M := by
  unfold f_X9_longest_177 at H
  refine x_istore 177 8 [some (.ref v0), some (.int v1), some (.int v2), some (.int v3), some (.int v4), some (.int v5), some (.int v6), some (.int v7), some (.int s0)] dX9_longest_177 rfl (Nat.le_of_ble_eq_true rfl) rfl ?_
  refine x_aload_n 179 0 dX9_longest_179 rfl rfl ?_
  obtain ⟨h46, H⟩ := x_ckp H
  refine x_getf 180 84 9 36 (.ref (x_r M v0 36)) dX9_longest_180 lk_1066 (by decide) (by decide) rfl (fun _ => rfl) h46 ?_
  refine x_bipush 183 (10 : Int32) dX9_longest_183 (by decide) ?_
  refine x_iload 185 5 dX9_longest_185 rfl ?_
  refine x_imul 187 dX9_longest_187 ?_
  refine x_iload 188 6 dX9_longest_188 rfl ?_
  refine x_iadd 190 dX9_longest_190 ?_
  refine x_iconst 191 (1 : Int32) dX9_longest_191 (by decide) ?_
  refine x_iload 192 8 dX9_longest_192 rfl ?_
  refine x_iload 194 7 dX9_longest_194 rfl ?_
  refine x_icmp_le 196 204 dX9_longest_196 (by decide) (fun c47 => ?_) (fun c47 => ?_)
  · replace H := x_ifp c47 H
    refine x_iload 204 7 dX9_longest_204 rfl ?_
    exact x_wk (le_s (le_s (le_s (le_s (le_s (le_s (le_s (le_n (le_n le_0))))))))) (t_X9_longest_206 l hκ64 hκ110 hκ118 H)
  · replace H := x_ifn c47 H
    refine x_iload 199 8 dX9_longest_199 rfl ?_
    refine x_goto 201 206 dX9_longest_201 (by decide) ?_
    exact x_wk (le_s (le_s (le_s (le_s (le_s (le_s (le_s (le_n (le_n le_0))))))))) (t_X9_longest_206 l hκ64 hκ110 hκ118 H)

def f_X9_longest_c165 (κ64 : Nat → Int32 → Int32 → Int32 → Int32 → XM → Option (Int32 × XM)) (κ110 : Nat → Int32 → Int32 → Int32 → Int32 → Int32 → XM → Option (Int32 × XM)) (κ118 : Nat → Int32 → Int32 → Int32 → Int32 → Int32 → Int32 → XM → Option (Int32 × XM)) (v0 : Nat) (v1 : Int32) (v2 : Int32) (v3 : Int32) (v4 : Int32) (v5 : Int32) (v6 : Int32) (v7 : Int32) (s1 : Int32) (s2 : Nat) (s0 : Int32) (M : XM) : Option (Int32 × XM) :=
  if v3 = 0 then none else if x_at M s2 1 ((s1 * s0) + ((v6 + (1 : Int32)) - (v6 + (1 : Int32)) / v3 * v3)) = true then (f_X9_longest_177 κ64 κ110 κ118 v0 v1 v2 v3 v4 v5 v6 v7 (x_i M s2 ((s1 * s0) + ((v6 + (1 : Int32)) - (v6 + (1 : Int32)) / v3 * v3)).toNatClampNeg) M) else none
set_option maxRecDepth 20000 in
set_option maxHeartbeats 4000000 in
theorem t_X9_longest_c165 (l : Launch) {κ64 : Nat → Int32 → Int32 → Int32 → Int32 → XM → Option (Int32 × XM)} {κ110 : Nat → Int32 → Int32 → Int32 → Int32 → Int32 → XM → Option (Int32 × XM)} {κ118 : Nat → Int32 → Int32 → Int32 → Int32 → Int32 → Int32 → XM → Option (Int32 × XM)} {v0 : Nat} {v1 : Int32} {v2 : Int32} {v3 : Int32} {v4 : Int32} {v5 : Int32} {v6 : Int32} {v7 : Int32} {s1 : Int32} {s2 : Nat} {s0 : Int32} {M : XM} {q : Int32 × XM} (hκ64 : ∀ (v0 : Nat) (v1 : Int32) (v2 : Int32) (v3 : Int32) (v4 : Int32) (M : XM), κ64 v0 v1 v2 v3 v4 M = some q → AW l m_X9_longest 3 0 0 (x_Ri q) 0 0 64 [some (.ref v0), some (.int v1), some (.int v2), some (.int v3), some (.int v4), none, none, none, none] [] M) (hκ110 : ∀ (v0 : Nat) (v1 : Int32) (v2 : Int32) (v3 : Int32) (v4 : Int32) (v5 : Int32) (M : XM), κ110 v0 v1 v2 v3 v4 v5 M = some q → AW l m_X9_longest 3 0 0 (x_Ri q) 0 0 110 [some (.ref v0), some (.int v1), some (.int v2), some (.int v3), some (.int v4), some (.int v5), none, none, none] [] M) (hκ118 : ∀ (v0 : Nat) (v1 : Int32) (v2 : Int32) (v3 : Int32) (v4 : Int32) (v5 : Int32) (v6 : Int32) (M : XM), κ118 v0 v1 v2 v3 v4 v5 v6 M = some q → AW l m_X9_longest 3 0 0 (x_Ri q) 0 0 118 [some (.ref v0), some (.int v1), some (.int v2), some (.int v3), some (.int v4), some (.int v5), some (.int v6), none, none] [] M) (H : f_X9_longest_c165 κ64 κ110 κ118 v0 v1 v2 v3 v4 v5 v6 v7 s1 s2 s0 M = some q) : AW l m_X9_longest 3 0 0 (x_Ri q) 0 0 168 [some (.ref v0), some (.int v1), some (.int v2), some (.int v3), some (.int v4), some (.int v5), some (.int v6), some (.int v7), none] [(.int s0), (.int s1), (.ref s2)] M := by
  unfold f_X9_longest_c165 at H
  refine x_imul 168 dX9_longest_168 ?_
  refine x_iload 169 6 dX9_longest_169 rfl ?_
  refine x_iconst 171 (1 : Int32) dX9_longest_171 (by decide) ?_
  refine x_iadd 172 dX9_longest_172 ?_
  refine x_iload_n 173 3 dX9_longest_173 rfl rfl ?_
  obtain ⟨h56, H⟩ := x_cnz H
  refine x_irem 174 dX9_longest_174 h56 ?_
  refine x_iadd 175 dX9_longest_175 ?_
  obtain ⟨h57, H⟩ := x_ckp H
  refine x_iald 176 dX9_longest_176 h57 ?_
  exact t_X9_longest_177 l hκ64 hκ110 hκ118 H

def bd_X9_longest_118 (κ64 : Nat → Int32 → Int32 → Int32 → Int32 → XM → Option (Int32 × XM)) (κ110 : Nat → Int32 → Int32 → Int32 → Int32 → Int32 → XM → Option (Int32 × XM)) (κ118 : Nat → Int32 → Int32 → Int32 → Int32 → Int32 → Int32 → XM → Option (Int32 × XM)) (v0 : Nat) (v1 : Int32) (v2 : Int32) (v3 : Int32) (v4 : Int32) (v5 : Int32) (v6 : Int32) (M : XM) : Option (Int32 × XM) :=
  if v3 ≤ v6 then (κ110 v0 v1 v2 v3 v4 (v5 + (-1 : Int32)) M) else (if x_tag M v0 = 9 + 10 then (if x_at M (x_r M v0 36) 1 ((((10 : Int32) * v5) + (10 : Int32)) + v6) = true then (if v4 = 0 then (f_X9_longest_177 κ64 κ110 κ118 v0 v1 v2 v3 v4 v5 v6 (x_i M (x_r M v0 36) ((((10 : Int32) * v5) + (10 : Int32)) + v6).toNatClampNeg) (0 : Int32) M) else (x_bd (f_X9_left v0 v1 v5 (v6 + (1 : Int32)) M) (f_X9_longest_c165 κ64 κ110 κ118 v0 v1 v2 v3 v4 v5 v6 (x_i M (x_r M v0 36) ((((10 : Int32) * v5) + (10 : Int32)) + v6).toNatClampNeg) (10 : Int32) (x_r M v0 35)))) else none) else none)
set_option maxRecDepth 20000 in
set_option maxHeartbeats 4000000 in
theorem tb_X9_longest_118 (l : Launch) {κ64 : Nat → Int32 → Int32 → Int32 → Int32 → XM → Option (Int32 × XM)} {κ110 : Nat → Int32 → Int32 → Int32 → Int32 → Int32 → XM → Option (Int32 × XM)} {κ118 : Nat → Int32 → Int32 → Int32 → Int32 → Int32 → Int32 → XM → Option (Int32 × XM)} {v0 : Nat} {v1 : Int32} {v2 : Int32} {v3 : Int32} {v4 : Int32} {v5 : Int32} {v6 : Int32} {M : XM} {q : Int32 × XM} (hκ64 : ∀ (v0 : Nat) (v1 : Int32) (v2 : Int32) (v3 : Int32) (v4 : Int32) (M : XM), κ64 v0 v1 v2 v3 v4 M = some q → AW l m_X9_longest 3 0 0 (x_Ri q) 0 0 64 [some (.ref v0), some (.int v1), some (.int v2), some (.int v3), some (.int v4), none, none, none, none] [] M) (hκ110 : ∀ (v0 : Nat) (v1 : Int32) (v2 : Int32) (v3 : Int32) (v4 : Int32) (v5 : Int32) (M : XM), κ110 v0 v1 v2 v3 v4 v5 M = some q → AW l m_X9_longest 3 0 0 (x_Ri q) 0 0 110 [some (.ref v0), some (.int v1), some (.int v2), some (.int v3), some (.int v4), some (.int v5), none, none, none] [] M) (hκ118 : ∀ (v0 : Nat) (v1 : Int32) (v2 : Int32) (v3 : Int32) (v4 : Int32) (v5 : Int32) (v6 : Int32) (M : XM), κ118 v0 v1 v2 v3 v4 v5 v6 M = some q → AW l m_X9_longest 3 0 0 (x_Ri q) 0 0 118 [some (.ref v0), some (.int v1), some (.int v2), some (.int v3), some (.int v4), some (.int v5), some (.int v6), none, none] [] M) (H : bd_X9_longest_118 κ64 κ110 κ118 v0 v1 v2 v3 v4 v5 v6 M = some q) : AW l m_X9_longest 3 0 0 (x_Ri q) 0 0 118 [some (.ref v0), some (.int v1), some (.int v2), some (.int v3), some (.int v4), some (.int v5), some (.int v6), none, none] [] M := by
  unfold bd_X9_longest_118 at H
  refine x_iload 118 6 dX9_longest_118 rfl ?_
  refine x_iload_n 120 3 dX9_longest_120 rfl rfl ?_
  refine x_icmp_ge 121 214 dX9_longest_121 (by decide) (fun c42 => ?_) (fun c42 => ?_)
  · replace H := x_ifp c42 H
    refine x_iinc 214 5 (v5 + (-1 : Int32)) [some (.ref v0), some (.int v1), some (.int v2), some (.int v3), some (.int v4), some (.int (v5 + (-1 : Int32))), some (.int v6), none, none] dX9_longest_214 rfl (congrArg (fun z : Int32 => v5 + z) (show Int32.ofInt (-1) = (-1 : Int32) by decide)) rfl (Nat.le_of_ble_eq_true rfl) rfl ?_
    refine x_goto 217 110 dX9_longest_217 (by decide) ?_
    exact x_wk (le_s (le_s (le_s (le_s (le_s (le_s (le_n (le_s (le_s le_0))))))))) (hκ110 _ _ _ _ _ _ _ H)
  · replace H := x_ifn c42 H
    refine x_aload_n 124 0 dX9_longest_124 rfl rfl ?_
    obtain ⟨h43, H⟩ := x_ckp H
    refine x_getf 125 84 9 36 (.ref (x_r M v0 36)) dX9_longest_125 lk_1066 (by decide) (by decide) rfl (fun _ => rfl) h43 ?_
    refine x_bipush 128 (10 : Int32) dX9_longest_128 (by decide) ?_
    refine x_iload 130 5 dX9_longest_130 rfl ?_
    refine x_imul 132 dX9_longest_132 ?_
    refine x_bipush 133 (10 : Int32) dX9_longest_133 (by decide) ?_
    refine x_iadd 135 dX9_longest_135 ?_
    refine x_iload 136 6 dX9_longest_136 rfl ?_
    refine x_iadd 138 dX9_longest_138 ?_
    obtain ⟨h44, H⟩ := x_ckp H
    refine x_iald 139 dX9_longest_139 h44 ?_
    refine x_istore 140 7 [some (.ref v0), some (.int v1), some (.int v2), some (.int v3), some (.int v4), some (.int v5), some (.int v6), some (.int (x_i M (x_r M v0 36) ((((10 : Int32) * v5) + (10 : Int32)) + v6).toNatClampNeg)), none] dX9_longest_140 rfl (Nat.le_of_ble_eq_true rfl) rfl ?_
    refine x_iload 142 4 dX9_longest_142 rfl ?_
    refine x_if_ne 144 151 dX9_longest_144 (by decide) (fun c45 => ?_) (fun c45 => ?_)
    · replace H := x_ifn c45 H
      refine x_aload_n 151 0 dX9_longest_151 rfl rfl ?_
      refine x_getf 152 81 9 35 (.ref (x_r M v0 35)) dX9_longest_152 lk_1065 (by decide) (by decide) rfl (fun _ => rfl) h43 ?_
      refine x_bipush 155 (10 : Int32) dX9_longest_155 (by decide) ?_
      refine x_aload_n 157 0 dX9_longest_157 rfl rfl ?_
      refine x_iload_n 158 1 dX9_longest_158 rfl rfl ?_
      refine x_iload 159 5 dX9_longest_159 rfl ?_
      refine x_iload 161 6 dX9_longest_161 rfl ?_
      refine x_iconst 163 (1 : Int32) dX9_longest_163 (by decide) ?_
      refine x_iadd 164 dX9_longest_164 ?_
      obtain ⟨r54, M53, e55, H⟩ := x_bd_of H
      refine x_callV 165 183 9 [(.int v1), (.int v5), (.int (v6 + (1 : Int32)))] [(.int (10 : Int32)), (.ref (x_r M v0 35))] dX9_longest_165 (ct_X9_left l e55) lk_1273 lk_1275 lk_53 (by decide) h43 lk_94 lk_1276 ⟨cn_X9_left, (by decide), by decide⟩ rfl (Nat.le_of_ble_eq_true rfl) (Nat.le_of_ble_eq_true rfl) (Nat.le_of_ble_eq_true rfl) (x_ri ?_)
      exact t_X9_longest_c165 l hκ64 hκ110 hκ118 H
    · replace H := x_ifp c45 H
      refine x_iconst 147 (0 : Int32) dX9_longest_147 (by decide) ?_
      refine x_goto 148 177 dX9_longest_148 (by decide) ?_
      exact t_X9_longest_177 l hκ64 hκ110 hκ118 H

def lp_X9_longest_118 (κ64 : Nat → Int32 → Int32 → Int32 → Int32 → XM → Option (Int32 × XM)) (κ110 : Nat → Int32 → Int32 → Int32 → Int32 → Int32 → XM → Option (Int32 × XM)) (n : Nat) : Nat → Int32 → Int32 → Int32 → Int32 → Int32 → Int32 → XM → Option (Int32 × XM) := x_rec (fun _ _ _ _ _ _ _ _ => none) (bd_X9_longest_118 κ64 κ110) n
theorem t_X9_longest_118 (l : Launch) {κ64 : Nat → Int32 → Int32 → Int32 → Int32 → XM → Option (Int32 × XM)} {κ110 : Nat → Int32 → Int32 → Int32 → Int32 → Int32 → XM → Option (Int32 × XM)} {q : Int32 × XM} (hκ64 : ∀ (v0 : Nat) (v1 : Int32) (v2 : Int32) (v3 : Int32) (v4 : Int32) (M : XM), κ64 v0 v1 v2 v3 v4 M = some q → AW l m_X9_longest 3 0 0 (x_Ri q) 0 0 64 [some (.ref v0), some (.int v1), some (.int v2), some (.int v3), some (.int v4), none, none, none, none] [] M) (hκ110 : ∀ (v0 : Nat) (v1 : Int32) (v2 : Int32) (v3 : Int32) (v4 : Int32) (v5 : Int32) (M : XM), κ110 v0 v1 v2 v3 v4 v5 M = some q → AW l m_X9_longest 3 0 0 (x_Ri q) 0 0 110 [some (.ref v0), some (.int v1), some (.int v2), some (.int v3), some (.int v4), some (.int v5), none, none, none] [] M) : ∀ (n : Nat) (v0 : Nat) (v1 : Int32) (v2 : Int32) (v3 : Int32) (v4 : Int32) (v5 : Int32) (v6 : Int32) (M : XM), lp_X9_longest_118 κ64 κ110 n v0 v1 v2 v3 v4 v5 v6 M = some q → AW l m_X9_longest 3 0 0 (x_Ri q) 0 0 118 [some (.ref v0), some (.int v1), some (.int v2), some (.int v3), some (.int v4), some (.int v5), some (.int v6), none, none] [] M := by
  intro n
  induction n with
  | zero => intro v0 v1 v2 v3 v4 v5 v6 M H; cases H
  | succ n ih => intro v0 v1 v2 v3 v4 v5 v6 M H; exact tb_X9_longest_118 l hκ64 hκ110 ih H
def bd_X9_longest_110 (κ64 : Nat → Int32 → Int32 → Int32 → Int32 → XM → Option (Int32 × XM)) (κ110 : Nat → Int32 → Int32 → Int32 → Int32 → Int32 → XM → Option (Int32 × XM)) (v0 : Nat) (v1 : Int32) (v2 : Int32) (v3 : Int32) (v4 : Int32) (v5 : Int32) (M : XM) : Option (Int32 × XM) :=
  if v5 < 0 then (lp_X9_longest_223 κ64 x_fuel v0 v1 v2 v3 v4 (0 : Int32) M) else (lp_X9_longest_118 κ64 κ110 x_fuel v0 v1 v2 v3 v4 v5 (0 : Int32) M)
set_option maxRecDepth 20000 in
set_option maxHeartbeats 4000000 in
theorem tb_X9_longest_110 (l : Launch) {κ64 : Nat → Int32 → Int32 → Int32 → Int32 → XM → Option (Int32 × XM)} {κ110 : Nat → Int32 → Int32 → Int32 → Int32 → Int32 → XM → Option (Int32 × XM)} {v0 : Nat} {v1 : Int32} {v2 : Int32} {v3 : Int32} {v4 : Int32} {v5 : Int32} {M : XM} {q : Int32 × XM} (hκ64 : ∀ (v0 : Nat) (v1 : Int32) (v2 : Int32) (v3 : Int32) (v4 : Int32) (M : XM), κ64 v0 v1 v2 v3 v4 M = some q → AW l m_X9_longest 3 0 0 (x_Ri q) 0 0 64 [some (.ref v0), some (.int v1), some (.int v2), some (.int v3), some (.int v4), none, none, none, none] [] M) (hκ110 : ∀ (v0 : Nat) (v1 : Int32) (v2 : Int32) (v3 : Int32) (v4 : Int32) (v5 : Int32) (M : XM), κ110 v0 v1 v2 v3 v4 v5 M = some q → AW l m_X9_longest 3 0 0 (x_Ri q) 0 0 110 [some (.ref v0), some (.int v1), some (.int v2), some (.int v3), some (.int v4), some (.int v5), none, none, none] [] M) (H : bd_X9_longest_110 κ64 κ110 v0 v1 v2 v3 v4 v5 M = some q) : AW l m_X9_longest 3 0 0 (x_Ri q) 0 0 110 [some (.ref v0), some (.int v1), some (.int v2), some (.int v3), some (.int v4), some (.int v5), none, none, none] [] M := by
  unfold bd_X9_longest_110 at H
  refine x_iload 110 5 dX9_longest_110 rfl ?_
  refine x_if_lt 112 220 dX9_longest_112 (by decide) (fun c30 => ?_) (fun c30 => ?_)
  · replace H := x_ifp c30 H
    refine x_iconst 220 (0 : Int32) dX9_longest_220 (by decide) ?_
    refine x_istore 221 5 [some (.ref v0), some (.int v1), some (.int v2), some (.int v3), some (.int v4), some (.int (0 : Int32)), none, none, none] dX9_longest_221 rfl (Nat.le_of_ble_eq_true rfl) rfl ?_
    exact t_X9_longest_223 l hκ64 _ _ _ _ _ _ _ _ H
  · replace H := x_ifn c30 H
    refine x_iconst 115 (0 : Int32) dX9_longest_115 (by decide) ?_
    refine x_istore 116 6 [some (.ref v0), some (.int v1), some (.int v2), some (.int v3), some (.int v4), some (.int v5), some (.int (0 : Int32)), none, none] dX9_longest_116 rfl (Nat.le_of_ble_eq_true rfl) rfl ?_
    exact t_X9_longest_118 l hκ64 hκ110 _ _ _ _ _ _ _ _ _ H

def lp_X9_longest_110 (κ64 : Nat → Int32 → Int32 → Int32 → Int32 → XM → Option (Int32 × XM)) (n : Nat) : Nat → Int32 → Int32 → Int32 → Int32 → Int32 → XM → Option (Int32 × XM) := x_rec (fun _ _ _ _ _ _ _ => none) (bd_X9_longest_110 κ64) n
theorem t_X9_longest_110 (l : Launch) {κ64 : Nat → Int32 → Int32 → Int32 → Int32 → XM → Option (Int32 × XM)} {q : Int32 × XM} (hκ64 : ∀ (v0 : Nat) (v1 : Int32) (v2 : Int32) (v3 : Int32) (v4 : Int32) (M : XM), κ64 v0 v1 v2 v3 v4 M = some q → AW l m_X9_longest 3 0 0 (x_Ri q) 0 0 64 [some (.ref v0), some (.int v1), some (.int v2), some (.int v3), some (.int v4), none, none, none, none] [] M) : ∀ (n : Nat) (v0 : Nat) (v1 : Int32) (v2 : Int32) (v3 : Int32) (v4 : Int32) (v5 : Int32) (M : XM), lp_X9_longest_110 κ64 n v0 v1 v2 v3 v4 v5 M = some q → AW l m_X9_longest 3 0 0 (x_Ri q) 0 0 110 [some (.ref v0), some (.int v1), some (.int v2), some (.int v3), some (.int v4), some (.int v5), none, none, none] [] M := by
  intro n
  induction n with
  | zero => intro v0 v1 v2 v3 v4 v5 M H; cases H
  | succ n ih => intro v0 v1 v2 v3 v4 v5 M H; exact tb_X9_longest_110 l hκ64 ih H
def bd_X9_longest_73 (κ64 : Nat → Int32 → Int32 → Int32 → Int32 → XM → Option (Int32 × XM)) (κ73 : Nat → Int32 → Int32 → Int32 → Int32 → Int32 → XM → Option (Int32 × XM)) (v0 : Nat) (v1 : Int32) (v2 : Int32) (v3 : Int32) (v4 : Int32) (v5 : Int32) (M : XM) : Option (Int32 × XM) :=
  if (10 : Int32) ≤ v5 then (if x_tag M v0 = 9 + 10 then (lp_X9_longest_110 κ64 x_fuel v0 v1 v2 v3 v4 ((x_i M v0 1) - (1 : Int32)) M) else none) else (if x_tag M v0 = 9 + 10 then (if x_at M (x_r M v0 36) 1 (((10 : Int32) * (x_i M v0 1)) + v5) = true then (x_lt (x_wi M (x_r M v0 36) (((10 : Int32) * (x_i M v0 1)) + v5).toNatClampNeg (0 : Int32)) (fun M60 => κ73 v0 v1 v2 v3 v4 (v5 + (1 : Int32)) M60)) else none) else none)
set_option maxRecDepth 20000 in
set_option maxHeartbeats 4000000 in
theorem tb_X9_longest_73 (l : Launch) {κ64 : Nat → Int32 → Int32 → Int32 → Int32 → XM → Option (Int32 × XM)} {κ73 : Nat → Int32 → Int32 → Int32 → Int32 → Int32 → XM → Option (Int32 × XM)} {v0 : Nat} {v1 : Int32} {v2 : Int32} {v3 : Int32} {v4 : Int32} {v5 : Int32} {M : XM} {q : Int32 × XM} (hκ64 : ∀ (v0 : Nat) (v1 : Int32) (v2 : Int32) (v3 : Int32) (v4 : Int32) (M : XM), κ64 v0 v1 v2 v3 v4 M = some q → AW l m_X9_longest 3 0 0 (x_Ri q) 0 0 64 [some (.ref v0), some (.int v1), some (.int v2), some (.int v3), some (.int v4), none, none, none, none] [] M) (hκ73 : ∀ (v0 : Nat) (v1 : Int32) (v2 : Int32) (v3 : Int32) (v4 : Int32) (v5 : Int32) (M : XM), κ73 v0 v1 v2 v3 v4 v5 M = some q → AW l m_X9_longest 3 0 0 (x_Ri q) 0 0 73 [some (.ref v0), some (.int v1), some (.int v2), some (.int v3), some (.int v4), some (.int v5), none, none, none] [] M) (H : bd_X9_longest_73 κ64 κ73 v0 v1 v2 v3 v4 v5 M = some q) : AW l m_X9_longest 3 0 0 (x_Ri q) 0 0 73 [some (.ref v0), some (.int v1), some (.int v2), some (.int v3), some (.int v4), some (.int v5), none, none, none] [] M := by
  unfold bd_X9_longest_73 at H
  refine x_iload 73 5 dX9_longest_73 rfl ?_
  refine x_bipush 75 (10 : Int32) dX9_longest_75 (by decide) ?_
  refine x_icmp_ge 77 102 dX9_longest_77 (by decide) (fun c28 => ?_) (fun c28 => ?_)
  · replace H := x_ifp c28 H
    refine x_aload_n 102 0 dX9_longest_102 rfl rfl ?_
    obtain ⟨h29, H⟩ := x_ckp H
    refine x_getf 103 7 9 1 (.int (x_i M v0 1)) dX9_longest_103 lk_1031 (by decide) (by decide) rfl (fun _ => rfl) h29 ?_
    refine x_iconst 106 (1 : Int32) dX9_longest_106 (by decide) ?_
    refine x_isub 107 dX9_longest_107 ?_
    refine x_istore 108 5 [some (.ref v0), some (.int v1), some (.int v2), some (.int v3), some (.int v4), some (.int ((x_i M v0 1) - (1 : Int32))), none, none, none] dX9_longest_108 rfl (Nat.le_of_ble_eq_true rfl) rfl ?_
    exact t_X9_longest_110 l hκ64 _ _ _ _ _ _ _ _ H
  · replace H := x_ifn c28 H
    refine x_aload_n 80 0 dX9_longest_80 rfl rfl ?_
    obtain ⟨h58, H⟩ := x_ckp H
    refine x_getf 81 84 9 36 (.ref (x_r M v0 36)) dX9_longest_81 lk_1066 (by decide) (by decide) rfl (fun _ => rfl) h58 ?_
    refine x_bipush 84 (10 : Int32) dX9_longest_84 (by decide) ?_
    refine x_aload_n 86 0 dX9_longest_86 rfl rfl ?_
    refine x_getf 87 7 9 1 (.int (x_i M v0 1)) dX9_longest_87 lk_1031 (by decide) (by decide) rfl (fun _ => rfl) h58 ?_
    refine x_imul 90 dX9_longest_90 ?_
    refine x_iload 91 5 dX9_longest_91 rfl ?_
    refine x_iadd 93 dX9_longest_93 ?_
    refine x_iconst 94 (0 : Int32) dX9_longest_94 (by decide) ?_
    obtain ⟨h59, H⟩ := x_ckp H
    obtain ⟨M60, w61, H⟩ := x_lt_of H
    have h62 : x_tag M60 v0 = 9 + 10 := by rw [w61]; exact h58
    have h63 : x_at M60 (x_r M v0 36) 1 (((10 : Int32) * (x_i M v0 1)) + v5) = true := by rw [w61]; exact h59
    have h64 : x_tag M60 (x_r M v0 36) = 1 := by rw [w61]; exact (x_at_1 h59)
    refine x_iast' 95 dX9_longest_95 h59 w61 ?_
    refine x_iinc 96 5 (v5 + (1 : Int32)) [some (.ref v0), some (.int v1), some (.int v2), some (.int v3), some (.int v4), some (.int (v5 + (1 : Int32))), none, none, none] dX9_longest_96 rfl (congrArg (fun z : Int32 => v5 + z) (show Int32.ofInt (1) = (1 : Int32) by decide)) rfl (Nat.le_of_ble_eq_true rfl) rfl ?_
    refine x_goto 99 73 dX9_longest_99 (by decide) ?_
    exact hκ73 _ _ _ _ _ _ _ H

def lp_X9_longest_73 (κ64 : Nat → Int32 → Int32 → Int32 → Int32 → XM → Option (Int32 × XM)) (n : Nat) : Nat → Int32 → Int32 → Int32 → Int32 → Int32 → XM → Option (Int32 × XM) := x_rec (fun _ _ _ _ _ _ _ => none) (bd_X9_longest_73 κ64) n
theorem t_X9_longest_73 (l : Launch) {κ64 : Nat → Int32 → Int32 → Int32 → Int32 → XM → Option (Int32 × XM)} {q : Int32 × XM} (hκ64 : ∀ (v0 : Nat) (v1 : Int32) (v2 : Int32) (v3 : Int32) (v4 : Int32) (M : XM), κ64 v0 v1 v2 v3 v4 M = some q → AW l m_X9_longest 3 0 0 (x_Ri q) 0 0 64 [some (.ref v0), some (.int v1), some (.int v2), some (.int v3), some (.int v4), none, none, none, none] [] M) : ∀ (n : Nat) (v0 : Nat) (v1 : Int32) (v2 : Int32) (v3 : Int32) (v4 : Int32) (v5 : Int32) (M : XM), lp_X9_longest_73 κ64 n v0 v1 v2 v3 v4 v5 M = some q → AW l m_X9_longest 3 0 0 (x_Ri q) 0 0 73 [some (.ref v0), some (.int v1), some (.int v2), some (.int v3), some (.int v4), some (.int v5), none, none, none] [] M := by
  intro n
  induction n with
  | zero => intro v0 v1 v2 v3 v4 v5 M H; cases H
  | succ n ih => intro v0 v1 v2 v3 v4 v5 M H; exact tb_X9_longest_73 l hκ64 ih H
def bd_X9_longest_64 (κ64 : Nat → Int32 → Int32 → Int32 → Int32 → XM → Option (Int32 × XM)) (v0 : Nat) (v1 : Int32) (v2 : Int32) (v3 : Int32) (v4 : Int32) (M : XM) : Option (Int32 × XM) :=
  if v2 < v4 then (if x_tag M v0 = 9 + 10 then (if x_at M (x_r M v0 12) 1 v1 = true then (if x_at M (x_r M v0 14) 1 v1 = true then (if v3 = 0 then none else if x_at M (x_r M v0 35) 1 (((10 : Int32) * (x_i M (x_r M v0 12) v1.toNatClampNeg)) + ((x_i M (x_r M v0 14) v1.toNatClampNeg) - (x_i M (x_r M v0 14) v1.toNatClampNeg) / v3 * v3)) = true then (if (x_i M (x_r M v0 35) (((10 : Int32) * (x_i M (x_r M v0 12) v1.toNatClampNeg)) + ((x_i M (x_r M v0 14) v1.toNatClampNeg) - (x_i M (x_r M v0 14) v1.toNatClampNeg) / v3 * v3)).toNatClampNeg) ≤ (400 : Int32) then (some ((x_i M (x_r M v0 35) (((10 : Int32) * (x_i M (x_r M v0 12) v1.toNatClampNeg)) + ((x_i M (x_r M v0 14) v1.toNatClampNeg) - (x_i M (x_r M v0 14) v1.toNatClampNeg) / v3 * v3)).toNatClampNeg), M)) else (some ((-1 : Int32), M))) else none) else none) else none) else none) else (lp_X9_longest_73 κ64 x_fuel v0 v1 v2 v3 v4 (0 : Int32) M)
set_option maxRecDepth 20000 in
set_option maxHeartbeats 4000000 in
theorem tb_X9_longest_64 (l : Launch) {κ64 : Nat → Int32 → Int32 → Int32 → Int32 → XM → Option (Int32 × XM)} {v0 : Nat} {v1 : Int32} {v2 : Int32} {v3 : Int32} {v4 : Int32} {M : XM} {q : Int32 × XM} (hκ64 : ∀ (v0 : Nat) (v1 : Int32) (v2 : Int32) (v3 : Int32) (v4 : Int32) (M : XM), κ64 v0 v1 v2 v3 v4 M = some q → AW l m_X9_longest 3 0 0 (x_Ri q) 0 0 64 [some (.ref v0), some (.int v1), some (.int v2), some (.int v3), some (.int v4), none, none, none, none] [] M) (H : bd_X9_longest_64 κ64 v0 v1 v2 v3 v4 M = some q) : AW l m_X9_longest 3 0 0 (x_Ri q) 0 0 64 [some (.ref v0), some (.int v1), some (.int v2), some (.int v3), some (.int v4), none, none, none, none] [] M := by
  unfold bd_X9_longest_64 at H
  refine x_iload 64 4 dX9_longest_64 rfl ?_
  refine x_iload_n 66 2 dX9_longest_66 rfl rfl ?_
  refine x_icmp_gt 67 264 dX9_longest_67 (by decide) (fun c21 => ?_) (fun c21 => ?_)
  · replace H := x_ifp c21 H
    refine x_aload_n 264 0 dX9_longest_264 rfl rfl ?_
    obtain ⟨h22, H⟩ := x_ckp H
    refine x_getf 265 81 9 35 (.ref (x_r M v0 35)) dX9_longest_265 lk_1065 (by decide) (by decide) rfl (fun _ => rfl) h22 ?_
    refine x_bipush 268 (10 : Int32) dX9_longest_268 (by decide) ?_
    refine x_aload_n 270 0 dX9_longest_270 rfl rfl ?_
    refine x_getf 271 38 9 12 (.ref (x_r M v0 12)) dX9_longest_271 lk_1042 (by decide) (by decide) rfl (fun _ => rfl) h22 ?_
    refine x_iload_n 274 1 dX9_longest_274 rfl rfl ?_
    obtain ⟨h23, H⟩ := x_ckp H
    refine x_iald 275 dX9_longest_275 h23 ?_
    refine x_imul 276 dX9_longest_276 ?_
    refine x_aload_n 277 0 dX9_longest_277 rfl rfl ?_
    refine x_getf 278 44 9 14 (.ref (x_r M v0 14)) dX9_longest_278 lk_1044 (by decide) (by decide) rfl (fun _ => rfl) h22 ?_
    refine x_iload_n 281 1 dX9_longest_281 rfl rfl ?_
    obtain ⟨h24, H⟩ := x_ckp H
    refine x_iald 282 dX9_longest_282 h24 ?_
    refine x_iload_n 283 3 dX9_longest_283 rfl rfl ?_
    obtain ⟨h25, H⟩ := x_cnz H
    refine x_irem 284 dX9_longest_284 h25 ?_
    refine x_iadd 285 dX9_longest_285 ?_
    obtain ⟨h26, H⟩ := x_ckp H
    refine x_iald 286 dX9_longest_286 h26 ?_
    refine x_istore 287 4 [some (.ref v0), some (.int v1), some (.int v2), some (.int v3), some (.int (x_i M (x_r M v0 35) (((10 : Int32) * (x_i M (x_r M v0 12) v1.toNatClampNeg)) + ((x_i M (x_r M v0 14) v1.toNatClampNeg) - (x_i M (x_r M v0 14) v1.toNatClampNeg) / v3 * v3)).toNatClampNeg)), none, none, none, none] dX9_longest_287 rfl (Nat.le_of_ble_eq_true rfl) rfl ?_
    refine x_iload 289 4 dX9_longest_289 rfl ?_
    refine x_sipush 291 (400 : Int32) dX9_longest_291 (by decide) ?_
    refine x_icmp_le 294 301 dX9_longest_294 (by decide) (fun c27 => ?_) (fun c27 => ?_)
    · replace H := x_ifp c27 H
      refine x_iload 301 4 dX9_longest_301 rfl ?_
      cases H
      exact x_iret 303 dX9_longest_303 .int rfl rfl (Nat.le_of_ble_eq_true rfl) (Nat.le_of_ble_eq_true rfl) ⟨rfl, rfl⟩
    · replace H := x_ifn c27 H
      refine x_iconst 297 (-1 : Int32) dX9_longest_297 (by decide) ?_
      refine x_goto 298 303 dX9_longest_298 (by decide) ?_
      cases H
      exact x_iret 303 dX9_longest_303 .int rfl rfl (Nat.le_of_ble_eq_true rfl) (Nat.le_of_ble_eq_true rfl) ⟨rfl, rfl⟩
  · replace H := x_ifn c21 H
    refine x_iconst 70 (0 : Int32) dX9_longest_70 (by decide) ?_
    refine x_istore 71 5 [some (.ref v0), some (.int v1), some (.int v2), some (.int v3), some (.int v4), some (.int (0 : Int32)), none, none, none] dX9_longest_71 rfl (Nat.le_of_ble_eq_true rfl) rfl ?_
    exact t_X9_longest_73 l hκ64 _ _ _ _ _ _ _ _ H

def lp_X9_longest_64 (n : Nat) : Nat → Int32 → Int32 → Int32 → Int32 → XM → Option (Int32 × XM) := x_rec (fun _ _ _ _ _ _ => none) (bd_X9_longest_64) n
theorem t_X9_longest_64 (l : Launch) {q : Int32 × XM} : ∀ (n : Nat) (v0 : Nat) (v1 : Int32) (v2 : Int32) (v3 : Int32) (v4 : Int32) (M : XM), lp_X9_longest_64 n v0 v1 v2 v3 v4 M = some q → AW l m_X9_longest 3 0 0 (x_Ri q) 0 0 64 [some (.ref v0), some (.int v1), some (.int v2), some (.int v3), some (.int v4), none, none, none, none] [] M := by
  intro n
  induction n with
  | zero => intro v0 v1 v2 v3 v4 M H; cases H
  | succ n ih => intro v0 v1 v2 v3 v4 M H; exact tb_X9_longest_64 l ih H
def bd_X9_longest_39 (κ39 : Nat → Int32 → Int32 → Int32 → Int32 → XM → Option (Int32 × XM)) (v0 : Nat) (v1 : Int32) (v2 : Int32) (v3 : Int32) (v4 : Int32) (M : XM) : Option (Int32 × XM) :=
  if (2010 : Int32) ≤ v4 then (lp_X9_longest_64 x_fuel v0 v1 v2 v3 (0 : Int32) M) else (if x_tag M v0 = 9 + 10 then (if x_at M (x_r M v0 35) 1 v4 = true then (x_lt (x_wi M (x_r M v0 35) v4.toNatClampNeg (0 : Int32)) (fun M67 => κ39 v0 v1 v2 v3 (v4 + (1 : Int32)) M67)) else none) else none)
set_option maxRecDepth 20000 in
set_option maxHeartbeats 4000000 in
theorem tb_X9_longest_39 (l : Launch) {κ39 : Nat → Int32 → Int32 → Int32 → Int32 → XM → Option (Int32 × XM)} {v0 : Nat} {v1 : Int32} {v2 : Int32} {v3 : Int32} {v4 : Int32} {M : XM} {q : Int32 × XM} (hκ39 : ∀ (v0 : Nat) (v1 : Int32) (v2 : Int32) (v3 : Int32) (v4 : Int32) (M : XM), κ39 v0 v1 v2 v3 v4 M = some q → AW l m_X9_longest 3 0 0 (x_Ri q) 0 0 39 [some (.ref v0), some (.int v1), some (.int v2), some (.int v3), some (.int v4), none, none, none, none] [] M) (H : bd_X9_longest_39 κ39 v0 v1 v2 v3 v4 M = some q) : AW l m_X9_longest 3 0 0 (x_Ri q) 0 0 39 [some (.ref v0), some (.int v1), some (.int v2), some (.int v3), some (.int v4), none, none, none, none] [] M := by
  unfold bd_X9_longest_39 at H
  refine x_iload 39 4 dX9_longest_39 rfl ?_
  refine x_sipush 41 (2010 : Int32) dX9_longest_41 (by decide) ?_
  refine x_icmp_ge 44 61 dX9_longest_44 (by decide) (fun c20 => ?_) (fun c20 => ?_)
  · replace H := x_ifp c20 H
    refine x_iconst 61 (0 : Int32) dX9_longest_61 (by decide) ?_
    refine x_istore 62 4 [some (.ref v0), some (.int v1), some (.int v2), some (.int v3), some (.int (0 : Int32)), none, none, none, none] dX9_longest_62 rfl (Nat.le_of_ble_eq_true rfl) rfl ?_
    exact t_X9_longest_64 l _ _ _ _ _ _ _ H
  · replace H := x_ifn c20 H
    refine x_aload_n 47 0 dX9_longest_47 rfl rfl ?_
    obtain ⟨h65, H⟩ := x_ckp H
    refine x_getf 48 81 9 35 (.ref (x_r M v0 35)) dX9_longest_48 lk_1065 (by decide) (by decide) rfl (fun _ => rfl) h65 ?_
    refine x_iload 51 4 dX9_longest_51 rfl ?_
    refine x_iconst 53 (0 : Int32) dX9_longest_53 (by decide) ?_
    obtain ⟨h66, H⟩ := x_ckp H
    obtain ⟨M67, w68, H⟩ := x_lt_of H
    have h69 : x_tag M67 v0 = 9 + 10 := by rw [w68]; exact h65
    have h70 : x_at M67 (x_r M v0 35) 1 v4 = true := by rw [w68]; exact h66
    have h71 : x_tag M67 (x_r M v0 35) = 1 := by rw [w68]; exact (x_at_1 h66)
    refine x_iast' 54 dX9_longest_54 h66 w68 ?_
    refine x_iinc 55 4 (v4 + (1 : Int32)) [some (.ref v0), some (.int v1), some (.int v2), some (.int v3), some (.int (v4 + (1 : Int32))), none, none, none, none] dX9_longest_55 rfl (congrArg (fun z : Int32 => v4 + z) (show Int32.ofInt (1) = (1 : Int32) by decide)) rfl (Nat.le_of_ble_eq_true rfl) rfl ?_
    refine x_goto 58 39 dX9_longest_58 (by decide) ?_
    exact hκ39 _ _ _ _ _ _ H

def lp_X9_longest_39 (n : Nat) : Nat → Int32 → Int32 → Int32 → Int32 → XM → Option (Int32 × XM) := x_rec (fun _ _ _ _ _ _ => none) (bd_X9_longest_39) n
theorem t_X9_longest_39 (l : Launch) {q : Int32 × XM} : ∀ (n : Nat) (v0 : Nat) (v1 : Int32) (v2 : Int32) (v3 : Int32) (v4 : Int32) (M : XM), lp_X9_longest_39 n v0 v1 v2 v3 v4 M = some q → AW l m_X9_longest 3 0 0 (x_Ri q) 0 0 39 [some (.ref v0), some (.int v1), some (.int v2), some (.int v3), some (.int v4), none, none, none, none] [] M := by
  intro n
  induction n with
  | zero => intro v0 v1 v2 v3 v4 M H; cases H
  | succ n ih => intro v0 v1 v2 v3 v4 M H; exact tb_X9_longest_39 l ih H
def f_X9_longest_c32 (v0 : Nat) (v1 : Int32) (v2 : Int32) (s0 : Int32) (M : XM) : Option (Int32 × XM) :=
  lp_X9_longest_39 x_fuel v0 v1 v2 s0 (0 : Int32) M
set_option maxRecDepth 20000 in
set_option maxHeartbeats 4000000 in
theorem t_X9_longest_c32 (l : Launch) {v0 : Nat} {v1 : Int32} {v2 : Int32} {s0 : Int32} {M : XM} {q : Int32 × XM} (H : f_X9_longest_c32 v0 v1 v2 s0 M = some q) : AW l m_X9_longest 3 0 0 (x_Ri q) 0 0 35 [some (.ref v0), some (.int v1), some (.int v2), none, none, none, none, none, none] [(.int s0)] M := by
  unfold f_X9_longest_c32 at H
  refine x_istore_n 35 3 [some (.ref v0), some (.int v1), some (.int v2), some (.int s0), none, none, none, none, none] dX9_longest_35 rfl rfl (Nat.le_of_ble_eq_true rfl) rfl ?_
  refine x_iconst 36 (0 : Int32) dX9_longest_36 (by decide) ?_
  refine x_istore 37 4 [some (.ref v0), some (.int v1), some (.int v2), some (.int s0), some (.int (0 : Int32)), none, none, none, none] dX9_longest_37 rfl (Nat.le_of_ble_eq_true rfl) rfl ?_
  exact t_X9_longest_39 l _ _ _ _ _ _ _ H

def f_X9_longest_c2 (v0 : Nat) (v1 : Int32) (v2 : Int32) (s0 : Int32) (M : XM) : Option (Int32 × XM) :=
  if s0 = 0 then (if x_tag M v0 = 9 + 10 then (x_bd (f_X9_noTen v0 (-1 : Int32) M) (fun r8 M7 => some (r8, M7))) else none) else (if v2 < 0 then (f_X9_longest_23 v0 M) else (if v2 ≤ (5 : Int32) then (if x_tag M v0 = 9 + 10 then (x_bd (f_X9_turnsOf v0 v1 M) (f_X9_longest_c32 v0 v1 v2)) else none) else (f_X9_longest_23 v0 M)))
set_option maxRecDepth 20000 in
set_option maxHeartbeats 4000000 in
theorem t_X9_longest_c2 (l : Launch) {v0 : Nat} {v1 : Int32} {v2 : Int32} {s0 : Int32} {M : XM} {q : Int32 × XM} (H : f_X9_longest_c2 v0 v1 v2 s0 M = some q) : AW l m_X9_longest 3 0 0 (x_Ri q) 0 0 5 [some (.ref v0), some (.int v1), some (.int v2), none, none, none, none, none, none] [(.int s0)] M := by
  unfold f_X9_longest_c2 at H
  refine x_if_ne 5 14 dX9_longest_5 (by decide) (fun c5 => ?_) (fun c5 => ?_)
  · replace H := x_ifn c5 H
    refine x_iload_n 14 2 dX9_longest_14 rfl rfl ?_
    refine x_if_lt 15 23 dX9_longest_15 (by decide) (fun c10 => ?_) (fun c10 => ?_)
    · replace H := x_ifp c10 H
      exact x_wk (le_s (le_n (le_n (le_s (le_s (le_s (le_s (le_s (le_s le_0))))))))) (t_X9_longest_23 l H)
    · replace H := x_ifn c10 H
      refine x_iload_n 18 2 dX9_longest_18 rfl rfl ?_
      refine x_iconst 19 (5 : Int32) dX9_longest_19 (by decide) ?_
      refine x_icmp_le 20 30 dX9_longest_20 (by decide) (fun c15 => ?_) (fun c15 => ?_)
      · replace H := x_ifp c15 H
        refine x_aload_n 30 0 dX9_longest_30 rfl rfl ?_
        refine x_iload_n 31 1 dX9_longest_31 rfl rfl ?_
        obtain ⟨h16, H⟩ := x_ckp H
        obtain ⟨r18, M17, e19, H⟩ := x_bd_of H
        refine x_callV 32 221 9 [(.int v1)] [] dX9_longest_32 (ct_X9_turnsOf l e19) lk_1334 lk_1336 lk_63 (by decide) h16 lk_94 lk_1337 ⟨cn_X9_turnsOf, (by decide), by decide⟩ rfl (Nat.le_of_ble_eq_true rfl) (Nat.le_of_ble_eq_true rfl) (Nat.le_of_ble_eq_true rfl) (x_ri ?_)
        exact t_X9_longest_c32 l H
      · replace H := x_ifn c15 H
        exact x_wk (le_s (le_n (le_n (le_s (le_s (le_s (le_s (le_s (le_s le_0))))))))) (t_X9_longest_23 l H)
  · replace H := x_ifp c5 H
    refine x_aload_n 8 0 dX9_longest_8 rfl rfl ?_
    refine x_iconst 9 (-1 : Int32) dX9_longest_9 (by decide) ?_
    obtain ⟨h6, H⟩ := x_ckp H
    obtain ⟨r8, M7, e9, H⟩ := x_bd_of H
    refine x_callV 10 212 9 [(.int (-1 : Int32))] [] dX9_longest_10 (ct_X9_noTen l e9) lk_1314 lk_1316 lk_59 (by decide) h6 lk_94 lk_1317 ⟨cn_X9_noTen, (by decide), by decide⟩ rfl (Nat.le_of_ble_eq_true rfl) (Nat.le_of_ble_eq_true rfl) (Nat.le_of_ble_eq_true rfl) (x_ri ?_)
    cases H
    exact x_iret 13 dX9_longest_13 .int rfl rfl (Nat.le_of_ble_eq_true rfl) (Nat.le_of_ble_eq_true rfl) ⟨rfl, rfl⟩

def f_X9_longest (v0 : Nat) (v1 : Int32) (v2 : Int32) (M : XM) : Option (Int32 × XM) :=
  if x_tag M v0 = 9 + 10 then (x_bd (f_X9_isCounter v0 v1 M) (f_X9_longest_c2 v0 v1 v2)) else none
set_option maxRecDepth 20000 in
set_option maxHeartbeats 4000000 in
theorem t_X9_longest (l : Launch) {v0 : Nat} {v1 : Int32} {v2 : Int32} {M : XM} {q : Int32 × XM} (H : f_X9_longest v0 v1 v2 M = some q) : AW l m_X9_longest 3 0 0 (x_Ri q) 0 0 0 [some (.ref v0), some (.int v1), some (.int v2), none, none, none, none, none, none] [] M := by
  unfold f_X9_longest at H
  refine x_aload_n 0 0 dX9_longest_0 rfl rfl ?_
  refine x_iload_n 1 1 dX9_longest_1 rfl rfl ?_
  obtain ⟨h1, H⟩ := x_ckp H
  obtain ⟨r3, M2, e4, H⟩ := x_bd_of H
  refine x_callV 2 104 9 [(.int v1)] [] dX9_longest_2 (ct_X9_isCounter l e4) lk_1185 lk_1187 lk_38 (by decide) h1 lk_94 lk_1188 ⟨cn_X9_isCounter, (by decide), by decide⟩ rfl (Nat.le_of_ble_eq_true rfl) (Nat.le_of_ble_eq_true rfl) (Nat.le_of_ble_eq_true rfl) (x_ri ?_)
  exact t_X9_longest_c2 l H

theorem ct_X9_longest (l : Launch) {v0 : Nat} {v1 : Int32} {v2 : Int32} {M : XM} {q : Int32 × XM} (H : f_X9_longest v0 v1 v2 M = some q) : Ct l m_X9_longest 3 0 0 [(.ref v0), (.int v1), (.int v2)] M (x_Ri q) := x_met l m_X9_longest 3 0 0 [(.ref v0), (.int v1), (.int v2)] M (x_Ri q) _ rfl rfl (Nat.le_of_ble_eq_true rfl) (t_X9_longest l H)
abbrev m_X9_fits : XU := (yX9_fits, cX9_fits, 10, (some .int))
theorem cn_X9_fits : m_X9_fits.1.cls ≠ "java/lang/invoke/MethodHandle" ∧ m_X9_fits.1.cls ≠ "java/lang/invoke/VarHandle" ∧ (parseMethodDescriptor m_X9_fits.1.desc).map (fun q => q.parameters.length) = some 2 := by decide +kernel
def f_X9_fits_24 (v0 : Nat) (M : XM) : Option (Int32 × XM) :=
  if x_tag M v0 = 9 + 10 then (x_bd (f_X9_noTen v0 (-6 : Int32) M) (fun r13 M12 => some (r13, M12))) else none
set_option maxRecDepth 20000 in
set_option maxHeartbeats 4000000 in
theorem t_X9_fits_24 (l : Launch) {v0 : Nat} {M : XM} {q : Int32 × XM} (H : f_X9_fits_24 v0 M = some q) : AW l m_X9_fits 3 0 0 (x_Ri q) 0 0 24 [some (.ref v0), none, none, none, none, none, none, none, none, none] [] M := by
  unfold f_X9_fits_24 at H
  refine x_aload_n 24 0 dX9_fits_24 rfl rfl ?_
  refine x_bipush 25 (-6 : Int32) dX9_fits_25 (by decide) ?_
  obtain ⟨h11, H⟩ := x_ckp H
  obtain ⟨r13, M12, e14, H⟩ := x_bd_of H
  refine x_callV 27 212 9 [(.int (-6 : Int32))] [] dX9_fits_27 (ct_X9_noTen l e14) lk_1314 lk_1316 lk_59 (by decide) h11 lk_94 lk_1317 ⟨cn_X9_noTen, (by decide), by decide⟩ rfl (Nat.le_of_ble_eq_true rfl) (Nat.le_of_ble_eq_true rfl) (Nat.le_of_ble_eq_true rfl) (x_ri ?_)
  cases H
  exact x_iret 30 dX9_fits_30 .int rfl rfl (Nat.le_of_ble_eq_true rfl) (Nat.le_of_ble_eq_true rfl) ⟨rfl, rfl⟩

def f_X9_fits_377 (v4 : Int32) (M : XM) : Option (Int32 × XM) :=
  if v4 = (9 : Int32) then (some ((-1 : Int32), M)) else (some (v4, M))
set_option maxRecDepth 20000 in
set_option maxHeartbeats 4000000 in
theorem t_X9_fits_377 (l : Launch) {v4 : Int32} {M : XM} {q : Int32 × XM} (H : f_X9_fits_377 v4 M = some q) : AW l m_X9_fits 3 0 0 (x_Ri q) 0 0 377 [none, none, none, none, some (.int v4), none, none, none, none, none] [] M := by
  unfold f_X9_fits_377 at H
  refine x_iload 377 4 dX9_fits_377 rfl ?_
  refine x_bipush 379 (9 : Int32) dX9_fits_379 (by decide) ?_
  refine x_icmp_ne 381 388 dX9_fits_381 (by decide) (fun c40 => ?_) (fun c40 => ?_)
  · replace H := x_ifn c40 H
    refine x_iload 388 4 dX9_fits_388 rfl ?_
    cases H
    exact x_iret 390 dX9_fits_390 .int rfl rfl (Nat.le_of_ble_eq_true rfl) (Nat.le_of_ble_eq_true rfl) ⟨rfl, rfl⟩
  · replace H := x_ifp c40 H
    refine x_iconst 384 (-1 : Int32) dX9_fits_384 (by decide) ?_
    refine x_goto 385 390 dX9_fits_385 (by decide) ?_
    cases H
    exact x_iret 390 dX9_fits_390 .int rfl rfl (Nat.le_of_ble_eq_true rfl) (Nat.le_of_ble_eq_true rfl) ⟨rfl, rfl⟩

def f_X9_fits_369 (κ319 : Nat → Int32 → Int32 → Int32 → Int32 → XM → Option (Int32 × XM)) (v0 : Nat) (v2 : Int32) (v3 : Int32) (v5 : Int32) (s0 : Int32) (M : XM) : Option (Int32 × XM) :=
  κ319 v0 v2 v3 s0 (v5 + (1 : Int32)) M
set_option maxRecDepth 20000 in
set_option maxHeartbeats 4000000 in
theorem t_X9_fits_369 (l : Launch) {κ319 : Nat → Int32 → Int32 → Int32 → Int32 → XM → Option (Int32 × XM)} {v0 : Nat} {v2 : Int32} {v3 : Int32} {v5 : Int32} {s0 : Int32} {M : XM} {q : Int32 × XM} (hκ319 : ∀ (v0 : Nat) (v2 : Int32) (v3 : Int32) (v4 : Int32) (v5 : Int32) (M : XM), κ319 v0 v2 v3 v4 v5 M = some q → AW l m_X9_fits 3 0 0 (x_Ri q) 0 0 319 [some (.ref v0), none, some (.int v2), some (.int v3), some (.int v4), some (.int v5), none, none, none, none] [] M) (H : f_X9_fits_369 κ319 v0 v2 v3 v5 s0 M = some q) : AW l m_X9_fits 3 0 0 (x_Ri q) 0 0 369 [some (.ref v0), none, some (.int v2), some (.int v3), none, some (.int v5), none, none, none, none] [(.int s0)] M := by
  unfold f_X9_fits_369 at H
  refine x_istore 369 4 [some (.ref v0), none, some (.int v2), some (.int v3), some (.int s0), some (.int v5), none, none, none, none] dX9_fits_369 rfl (Nat.le_of_ble_eq_true rfl) rfl ?_
  refine x_iinc 371 5 (v5 + (1 : Int32)) [some (.ref v0), none, some (.int v2), some (.int v3), some (.int s0), some (.int (v5 + (1 : Int32))), none, none, none, none] dX9_fits_371 rfl (congrArg (fun z : Int32 => v5 + z) (show Int32.ofInt (1) = (1 : Int32) by decide)) rfl (Nat.le_of_ble_eq_true rfl) rfl ?_
  refine x_goto 374 319 dX9_fits_374 (by decide) ?_
  exact hκ319 _ _ _ _ _ _ H

def bd_X9_fits_319 (κ319 : Nat → Int32 → Int32 → Int32 → Int32 → XM → Option (Int32 × XM)) (v0 : Nat) (v2 : Int32) (v3 : Int32) (v4 : Int32) (v5 : Int32) (M : XM) : Option (Int32 × XM) :=
  if v3 ≤ v5 then (f_X9_fits_377 v4 M) else (if v2 ≤ 0 then (f_X9_fits_377 v4 M) else (if x_tag M v0 = 9 + 10 then (if x_at M (x_r M v0 35) 1 (((10 : Int32) * (x_i M v0 1)) + v5) = true then (if v4 ≤ (x_i M (x_r M v0 35) (((10 : Int32) * (x_i M v0 1)) + v5).toNatClampNeg) then (f_X9_fits_369 κ319 v0 v2 v3 v5 v4 M) else (f_X9_fits_369 κ319 v0 v2 v3 v5 (x_i M (x_r M v0 35) (((10 : Int32) * (x_i M v0 1)) + v5).toNatClampNeg) M)) else none) else none))
set_option maxRecDepth 20000 in
set_option maxHeartbeats 4000000 in
theorem tb_X9_fits_319 (l : Launch) {κ319 : Nat → Int32 → Int32 → Int32 → Int32 → XM → Option (Int32 × XM)} {v0 : Nat} {v2 : Int32} {v3 : Int32} {v4 : Int32} {v5 : Int32} {M : XM} {q : Int32 × XM} (hκ319 : ∀ (v0 : Nat) (v2 : Int32) (v3 : Int32) (v4 : Int32) (v5 : Int32) (M : XM), κ319 v0 v2 v3 v4 v5 M = some q → AW l m_X9_fits 3 0 0 (x_Ri q) 0 0 319 [some (.ref v0), none, some (.int v2), some (.int v3), some (.int v4), some (.int v5), none, none, none, none] [] M) (H : bd_X9_fits_319 κ319 v0 v2 v3 v4 v5 M = some q) : AW l m_X9_fits 3 0 0 (x_Ri q) 0 0 319 [some (.ref v0), none, some (.int v2), some (.int v3), some (.int v4), some (.int v5), none, none, none, none] [] M := by
  unfold bd_X9_fits_319 at H
  refine x_iload 319 5 dX9_fits_319 rfl ?_
  refine x_iload_n 321 3 dX9_fits_321 rfl rfl ?_
  refine x_icmp_ge 322 377 dX9_fits_322 (by decide) (fun c39 => ?_) (fun c39 => ?_)
  · replace H := x_ifp c39 H
    exact x_wk (le_n (le_s (le_n (le_n (le_s (le_n (le_s (le_s (le_s (le_s le_0)))))))))) (t_X9_fits_377 l H)
  · replace H := x_ifn c39 H
    refine x_iload_n 325 2 dX9_fits_325 rfl rfl ?_
    refine x_if_le 326 377 dX9_fits_326 (by decide) (fun c41 => ?_) (fun c41 => ?_)
    · replace H := x_ifp c41 H
      exact x_wk (le_n (le_s (le_n (le_n (le_s (le_n (le_s (le_s (le_s (le_s le_0)))))))))) (t_X9_fits_377 l H)
    · replace H := x_ifn c41 H
      refine x_aload_n 329 0 dX9_fits_329 rfl rfl ?_
      obtain ⟨h42, H⟩ := x_ckp H
      refine x_getf 330 81 9 35 (.ref (x_r M v0 35)) dX9_fits_330 lk_1065 (by decide) (by decide) rfl (fun _ => rfl) h42 ?_
      refine x_bipush 333 (10 : Int32) dX9_fits_333 (by decide) ?_
      refine x_aload_n 335 0 dX9_fits_335 rfl rfl ?_
      refine x_getf 336 7 9 1 (.int (x_i M v0 1)) dX9_fits_336 lk_1031 (by decide) (by decide) rfl (fun _ => rfl) h42 ?_
      refine x_imul 339 dX9_fits_339 ?_
      refine x_iload 340 5 dX9_fits_340 rfl ?_
      refine x_iadd 342 dX9_fits_342 ?_
      obtain ⟨h43, H⟩ := x_ckp H
      refine x_iald 343 dX9_fits_343 h43 ?_
      refine x_iload 344 4 dX9_fits_344 rfl ?_
      refine x_icmp_ge 346 367 dX9_fits_346 (by decide) (fun c44 => ?_) (fun c44 => ?_)
      · replace H := x_ifp c44 H
        refine x_iload 367 4 dX9_fits_367 rfl ?_
        exact x_wk (le_s (le_s (le_s (le_s (le_n (le_s (le_s (le_s (le_s (le_s le_0)))))))))) (t_X9_fits_369 l hκ319 H)
      · replace H := x_ifn c44 H
        refine x_aload_n 349 0 dX9_fits_349 rfl rfl ?_
        refine x_getf 350 81 9 35 (.ref (x_r M v0 35)) dX9_fits_350 lk_1065 (by decide) (by decide) rfl (fun _ => rfl) h42 ?_
        refine x_bipush 353 (10 : Int32) dX9_fits_353 (by decide) ?_
        refine x_aload_n 355 0 dX9_fits_355 rfl rfl ?_
        refine x_getf 356 7 9 1 (.int (x_i M v0 1)) dX9_fits_356 lk_1031 (by decide) (by decide) rfl (fun _ => rfl) h42 ?_
        refine x_imul 359 dX9_fits_359 ?_
        refine x_iload 360 5 dX9_fits_360 rfl ?_
        refine x_iadd 362 dX9_fits_362 ?_
        refine x_iald 363 dX9_fits_363 h43 ?_
        refine x_goto 364 369 dX9_fits_364 (by decide) ?_
        exact x_wk (le_s (le_s (le_s (le_s (le_n (le_s (le_s (le_s (le_s (le_s le_0)))))))))) (t_X9_fits_369 l hκ319 H)

def lp_X9_fits_319 (n : Nat) : Nat → Int32 → Int32 → Int32 → Int32 → XM → Option (Int32 × XM) := x_rec (fun _ _ _ _ _ _ => none) (bd_X9_fits_319) n
theorem t_X9_fits_319 (l : Launch) {q : Int32 × XM} : ∀ (n : Nat) (v0 : Nat) (v2 : Int32) (v3 : Int32) (v4 : Int32) (v5 : Int32) (M : XM), lp_X9_fits_319 n v0 v2 v3 v4 v5 M = some q → AW l m_X9_fits 3 0 0 (x_Ri q) 0 0 319 [some (.ref v0), none, some (.int v2), some (.int v3), some (.int v4), some (.int v5), none, none, none, none] [] M := by
  intro n
  induction n with
  | zero => intro v0 v2 v3 v4 v5 M H; cases H
  | succ n ih => intro v0 v2 v3 v4 v5 M H; exact tb_X9_fits_319 l ih H
def bd_X9_fits_278 (κ113 : Nat → Int32 → Int32 → Int32 → Int32 → XM → Option (Int32 × XM)) (κ278 : Nat → Int32 → Int32 → Int32 → Int32 → Int32 → XM → Option (Int32 × XM)) (v0 : Nat) (v1 : Int32) (v2 : Int32) (v3 : Int32) (v4 : Int32) (v5 : Int32) (M : XM) : Option (Int32 × XM) :=
  if (2010 : Int32) ≤ v5 then (κ113 v0 v1 v2 v3 (v4 + (1 : Int32)) M) else (if x_tag M v0 = 9 + 10 then (if x_at M (x_r M v0 36) 1 v5 = true then (if x_at M (x_r M v0 35) 1 v5 = true then (x_lt (x_wi M (x_r M v0 35) v5.toNatClampNeg (x_i M (x_r M v0 36) v5.toNatClampNeg)) (fun M52 => κ278 v0 v1 v2 v3 v4 (v5 + (1 : Int32)) M52)) else none) else none) else none)
set_option maxRecDepth 20000 in
set_option maxHeartbeats 4000000 in
theorem tb_X9_fits_278 (l : Launch) {κ113 : Nat → Int32 → Int32 → Int32 → Int32 → XM → Option (Int32 × XM)} {κ278 : Nat → Int32 → Int32 → Int32 → Int32 → Int32 → XM → Option (Int32 × XM)} {v0 : Nat} {v1 : Int32} {v2 : Int32} {v3 : Int32} {v4 : Int32} {v5 : Int32} {M : XM} {q : Int32 × XM} (hκ113 : ∀ (v0 : Nat) (v1 : Int32) (v2 : Int32) (v3 : Int32) (v4 : Int32) (M : XM), κ113 v0 v1 v2 v3 v4 M = some q → AW l m_X9_fits 3 0 0 (x_Ri q) 0 0 113 [some (.ref v0), some (.int v1), some (.int v2), some (.int v3), some (.int v4), none, none, none, none, none] [] M) (hκ278 : ∀ (v0 : Nat) (v1 : Int32) (v2 : Int32) (v3 : Int32) (v4 : Int32) (v5 : Int32) (M : XM), κ278 v0 v1 v2 v3 v4 v5 M = some q → AW l m_X9_fits 3 0 0 (x_Ri q) 0 0 278 [some (.ref v0), some (.int v1), some (.int v2), some (.int v3), some (.int v4), some (.int v5), none, none, none, none] [] M) (H : bd_X9_fits_278 κ113 κ278 v0 v1 v2 v3 v4 v5 M = some q) : AW l m_X9_fits 3 0 0 (x_Ri q) 0 0 278 [some (.ref v0), some (.int v1), some (.int v2), some (.int v3), some (.int v4), some (.int v5), none, none, none, none] [] M := by
  unfold bd_X9_fits_278 at H
  refine x_iload 278 5 dX9_fits_278 rfl ?_
  refine x_sipush 280 (2010 : Int32) dX9_fits_280 (by decide) ?_
  refine x_icmp_ge 283 306 dX9_fits_283 (by decide) (fun c48 => ?_) (fun c48 => ?_)
  · replace H := x_ifp c48 H
    refine x_iinc 306 4 (v4 + (1 : Int32)) [some (.ref v0), some (.int v1), some (.int v2), some (.int v3), some (.int (v4 + (1 : Int32))), some (.int v5), none, none, none, none] dX9_fits_306 rfl (congrArg (fun z : Int32 => v4 + z) (show Int32.ofInt (1) = (1 : Int32) by decide)) rfl (Nat.le_of_ble_eq_true rfl) rfl ?_
    refine x_goto 309 113 dX9_fits_309 (by decide) ?_
    exact x_wk (le_s (le_s (le_s (le_s (le_s (le_n (le_s (le_s (le_s (le_s le_0)))))))))) (hκ113 _ _ _ _ _ _ H)
  · replace H := x_ifn c48 H
    refine x_aload_n 286 0 dX9_fits_286 rfl rfl ?_
    obtain ⟨h49, H⟩ := x_ckp H
    refine x_getf 287 81 9 35 (.ref (x_r M v0 35)) dX9_fits_287 lk_1065 (by decide) (by decide) rfl (fun _ => rfl) h49 ?_
    refine x_iload 290 5 dX9_fits_290 rfl ?_
    refine x_aload_n 292 0 dX9_fits_292 rfl rfl ?_
    refine x_getf 293 84 9 36 (.ref (x_r M v0 36)) dX9_fits_293 lk_1066 (by decide) (by decide) rfl (fun _ => rfl) h49 ?_
    refine x_iload 296 5 dX9_fits_296 rfl ?_
    obtain ⟨h50, H⟩ := x_ckp H
    refine x_iald 298 dX9_fits_298 h50 ?_
    obtain ⟨h51, H⟩ := x_ckp H
    obtain ⟨M52, w53, H⟩ := x_lt_of H
    have h54 : x_tag M52 v0 = 9 + 10 := by rw [w53]; exact h49
    have h55 : x_at M52 (x_r M v0 36) 1 v5 = true := by rw [w53]; exact h50
    have h56 : x_tag M52 (x_r M v0 36) = 1 := by rw [w53]; exact (x_at_1 h50)
    have h57 : x_at M52 (x_r M v0 35) 1 v5 = true := by rw [w53]; exact h51
    have h58 : x_tag M52 (x_r M v0 35) = 1 := by rw [w53]; exact (x_at_1 h51)
    refine x_iast' 299 dX9_fits_299 h51 w53 ?_
    refine x_iinc 300 5 (v5 + (1 : Int32)) [some (.ref v0), some (.int v1), some (.int v2), some (.int v3), some (.int v4), some (.int (v5 + (1 : Int32))), none, none, none, none] dX9_fits_300 rfl (congrArg (fun z : Int32 => v5 + z) (show Int32.ofInt (1) = (1 : Int32) by decide)) rfl (Nat.le_of_ble_eq_true rfl) rfl ?_
    refine x_goto 303 278 dX9_fits_303 (by decide) ?_
    exact hκ278 _ _ _ _ _ _ _ H

def lp_X9_fits_278 (κ113 : Nat → Int32 → Int32 → Int32 → Int32 → XM → Option (Int32 × XM)) (n : Nat) : Nat → Int32 → Int32 → Int32 → Int32 → Int32 → XM → Option (Int32 × XM) := x_rec (fun _ _ _ _ _ _ _ => none) (bd_X9_fits_278 κ113) n
theorem t_X9_fits_278 (l : Launch) {κ113 : Nat → Int32 → Int32 → Int32 → Int32 → XM → Option (Int32 × XM)} {q : Int32 × XM} (hκ113 : ∀ (v0 : Nat) (v1 : Int32) (v2 : Int32) (v3 : Int32) (v4 : Int32) (M : XM), κ113 v0 v1 v2 v3 v4 M = some q → AW l m_X9_fits 3 0 0 (x_Ri q) 0 0 113 [some (.ref v0), some (.int v1), some (.int v2), some (.int v3), some (.int v4), none, none, none, none, none] [] M) : ∀ (n : Nat) (v0 : Nat) (v1 : Int32) (v2 : Int32) (v3 : Int32) (v4 : Int32) (v5 : Int32) (M : XM), lp_X9_fits_278 κ113 n v0 v1 v2 v3 v4 v5 M = some q → AW l m_X9_fits 3 0 0 (x_Ri q) 0 0 278 [some (.ref v0), some (.int v1), some (.int v2), some (.int v3), some (.int v4), some (.int v5), none, none, none, none] [] M := by
  intro n
  induction n with
  | zero => intro v0 v1 v2 v3 v4 v5 M H; cases H
  | succ n ih => intro v0 v1 v2 v3 v4 v5 M H; exact tb_X9_fits_278 l hκ113 ih H
def f_X9_fits_263 (κ113 : Nat → Int32 → Int32 → Int32 → Int32 → XM → Option (Int32 × XM)) (κ148 : Nat → Int32 → Int32 → Int32 → Int32 → Int32 → XM → Option (Int32 × XM)) (κ160 : Nat → Int32 → Int32 → Int32 → Int32 → Int32 → Int32 → XM → Option (Int32 × XM)) (v0 : Nat) (v1 : Int32) (v2 : Int32) (v3 : Int32) (v4 : Int32) (v5 : Int32) (v6 : Int32) (M : XM) : Option (Int32 × XM) :=
  κ160 v0 v1 v2 v3 v4 v5 (v6 + (1 : Int32)) M
set_option maxRecDepth 20000 in
set_option maxHeartbeats 4000000 in
theorem t_X9_fits_263 (l : Launch) {κ113 : Nat → Int32 → Int32 → Int32 → Int32 → XM → Option (Int32 × XM)} {κ148 : Nat → Int32 → Int32 → Int32 → Int32 → Int32 → XM → Option (Int32 × XM)} {κ160 : Nat → Int32 → Int32 → Int32 → Int32 → Int32 → Int32 → XM → Option (Int32 × XM)} {v0 : Nat} {v1 : Int32} {v2 : Int32} {v3 : Int32} {v4 : Int32} {v5 : Int32} {v6 : Int32} {M : XM} {q : Int32 × XM} (hκ113 : ∀ (v0 : Nat) (v1 : Int32) (v2 : Int32) (v3 : Int32) (v4 : Int32) (M : XM), κ113 v0 v1 v2 v3 v4 M = some q → AW l m_X9_fits 3 0 0 (x_Ri q) 0 0 113 [some (.ref v0), some (.int v1), some (.int v2), some (.int v3), some (.int v4), none, none, none, none, none] [] M) (hκ148 : ∀ (v0 : Nat) (v1 : Int32) (v2 : Int32) (v3 : Int32) (v4 : Int32) (v5 : Int32) (M : XM), κ148 v0 v1 v2 v3 v4 v5 M = some q → AW l m_X9_fits 3 0 0 (x_Ri q) 0 0 148 [some (.ref v0), some (.int v1), some (.int v2), some (.int v3), some (.int v4), some (.int v5), none, none, none, none] [] M) (hκ160 : ∀ (v0 : Nat) (v1 : Int32) (v2 : Int32) (v3 : Int32) (v4 : Int32) (v5 : Int32) (v6 : Int32) (M : XM), κ160 v0 v1 v2 v3 v4 v5 v6 M = some q → AW l m_X9_fits 3 0 0 (x_Ri q) 0 0 160 [some (.ref v0), some (.int v1), some (.int v2), some (.int v3), some (.int v4), some (.int v5), some (.int v6), none, none, none] [] M) (H : f_X9_fits_263 κ113 κ148 κ160 v0 v1 v2 v3 v4 v5 v6 M = some q) : AW l m_X9_fits 3 0 0 (x_Ri q) 0 0 263 [some (.ref v0), some (.int v1), some (.int v2), some (.int v3), some (.int v4), some (.int v5), some (.int v6), none, none, none] [] M := by
  unfold f_X9_fits_263 at H
  refine x_iinc 263 6 (v6 + (1 : Int32)) [some (.ref v0), some (.int v1), some (.int v2), some (.int v3), some (.int v4), some (.int v5), some (.int (v6 + (1 : Int32))), none, none, none] dX9_fits_263 rfl (congrArg (fun z : Int32 => v6 + z) (show Int32.ofInt (1) = (1 : Int32) by decide)) rfl (Nat.le_of_ble_eq_true rfl) rfl ?_
  refine x_goto 266 160 dX9_fits_266 (by decide) ?_
  exact hκ160 _ _ _ _ _ _ _ _ H

def f_X9_fits_238 (κ113 : Nat → Int32 → Int32 → Int32 → Int32 → XM → Option (Int32 × XM)) (κ148 : Nat → Int32 → Int32 → Int32 → Int32 → Int32 → XM → Option (Int32 × XM)) (κ160 : Nat → Int32 → Int32 → Int32 → Int32 → Int32 → Int32 → XM → Option (Int32 × XM)) (v0 : Nat) (v1 : Int32) (v2 : Int32) (v3 : Int32) (v4 : Int32) (v5 : Int32) (v6 : Int32) (v7 : Int32) (v9 : Int32) (M : XM) : Option (Int32 × XM) :=
  if x_tag M v0 = 9 + 10 then (if x_at M (x_r M v0 36) 1 v9 = true then (if (x_i M (x_r M v0 36) v9.toNatClampNeg) ≤ (v7 + (1 : Int32)) then (f_X9_fits_263 κ113 κ148 κ160 v0 v1 v2 v3 v4 v5 v6 M) else (x_lt (x_wi M (x_r M v0 36) v9.toNatClampNeg (v7 + (1 : Int32))) (fun M72 => f_X9_fits_263 κ113 κ148 κ160 v0 v1 v2 v3 v4 v5 v6 M72))) else none) else none
set_option maxRecDepth 20000 in
set_option maxHeartbeats 4000000 in
theorem t_X9_fits_238 (l : Launch) {κ113 : Nat → Int32 → Int32 → Int32 → Int32 → XM → Option (Int32 × XM)} {κ148 : Nat → Int32 → Int32 → Int32 → Int32 → Int32 → XM → Option (Int32 × XM)} {κ160 : Nat → Int32 → Int32 → Int32 → Int32 → Int32 → Int32 → XM → Option (Int32 × XM)} {v0 : Nat} {v1 : Int32} {v2 : Int32} {v3 : Int32} {v4 : Int32} {v5 : Int32} {v6 : Int32} {v7 : Int32} {v9 : Int32} {M : XM} {q : Int32 × XM} (hκ113 : ∀ (v0 : Nat) (v1 : Int32) (v2 : Int32) (v3 : Int32) (v4 : Int32) (M : XM), κ113 v0 v1 v2 v3 v4 M = some q → AW l m_X9_fits 3 0 0 (x_Ri q) 0 0 113 [some (.ref v0), some (.int v1), some (.int v2), some (.int v3), some (.int v4), none, none, none, none, none] [] M) (hκ148 : ∀ (v0 : Nat) (v1 : Int32) (v2 : Int32) (v3 : Int32) (v4 : Int32) (v5 : Int32) (M : XM), κ148 v0 v1 v2 v3 v4 v5 M = some q → AW l m_X9_fits 3 0 0 (x_Ri q) 0 0 148 [some (.ref v0), some (.int v1), some (.int v2), some (.int v3), some (.int v4), some (.int v5), none, none, none, none] [] M) (hκ160 : ∀ (v0 : Nat) (v1 : Int32) (v2 : Int32) (v3 : Int32) (v4 : Int32) (v5 : Int32) (v6 : Int32) (M : XM), κ160 v0 v1 v2 v3 v4 v5 v6 M = some q → AW l m_X9_fits 3 0 0 (x_Ri q) 0 0 160 [some (.ref v0), some (.int v1), some (.int v2), some (.int v3), some (.int v4), some (.int v5), some (.int v6), none, none, none] [] M) (H : f_X9_fits_238 κ113 κ148 κ160 v0 v1 v2 v3 v4 v5 v6 v7 v9 M = some q) : AW l m_X9_fits 3 0 0 (x_Ri q) 0 0 238 [some (.ref v0), some (.int v1), some (.int v2), some (.int v3), some (.int v4), some (.int v5), some (.int v6), some (.int v7), none, some (.int v9)] [] M := by
  unfold f_X9_fits_238 at H
  refine x_iload 238 7 dX9_fits_238 rfl ?_
  refine x_iconst 240 (1 : Int32) dX9_fits_240 (by decide) ?_
  refine x_iadd 241 dX9_fits_241 ?_
  refine x_aload_n 242 0 dX9_fits_242 rfl rfl ?_
  obtain ⟨h69, H⟩ := x_ckp H
  refine x_getf 243 84 9 36 (.ref (x_r M v0 36)) dX9_fits_243 lk_1066 (by decide) (by decide) rfl (fun _ => rfl) h69 ?_
  refine x_iload 246 9 dX9_fits_246 rfl ?_
  obtain ⟨h70, H⟩ := x_ckp H
  refine x_iald 248 dX9_fits_248 h70 ?_
  refine x_icmp_ge 249 263 dX9_fits_249 (by decide) (fun c71 => ?_) (fun c71 => ?_)
  · replace H := x_ifp c71 H
    exact x_wk (le_s (le_s (le_s (le_s (le_s (le_s (le_s (le_n (le_s (le_n le_0)))))))))) (t_X9_fits_263 l hκ113 hκ148 hκ160 H)
  · replace H := x_ifn c71 H
    refine x_aload_n 252 0 dX9_fits_252 rfl rfl ?_
    refine x_getf 253 84 9 36 (.ref (x_r M v0 36)) dX9_fits_253 lk_1066 (by decide) (by decide) rfl (fun _ => rfl) h69 ?_
    refine x_iload 256 9 dX9_fits_256 rfl ?_
    refine x_iload 258 7 dX9_fits_258 rfl ?_
    refine x_iconst 260 (1 : Int32) dX9_fits_260 (by decide) ?_
    refine x_iadd 261 dX9_fits_261 ?_
    obtain ⟨M72, w73, H⟩ := x_lt_of H
    have h74 : x_tag M72 v0 = 9 + 10 := by rw [w73]; exact h69
    have h75 : x_at M72 (x_r M v0 36) 1 v9 = true := by rw [w73]; exact h70
    have h76 : x_tag M72 (x_r M v0 36) = 1 := by rw [w73]; exact (x_at_1 h70)
    refine x_iast' 262 dX9_fits_262 h70 w73 ?_
    exact x_wk (le_s (le_s (le_s (le_s (le_s (le_s (le_s (le_n (le_s (le_n le_0)))))))))) (t_X9_fits_263 l hκ113 hκ148 hκ160 H)

def f_X9_fits_c204 (κ113 : Nat → Int32 → Int32 → Int32 → Int32 → XM → Option (Int32 × XM)) (κ148 : Nat → Int32 → Int32 → Int32 → Int32 → Int32 → XM → Option (Int32 × XM)) (κ160 : Nat → Int32 → Int32 → Int32 → Int32 → Int32 → Int32 → XM → Option (Int32 × XM)) (v0 : Nat) (v1 : Int32) (v2 : Int32) (v3 : Int32) (v4 : Int32) (v5 : Int32) (v6 : Int32) (v7 : Int32) (v8 : Int32) (s1 : Int32) (s0 : Int32) (M : XM) : Option (Int32 × XM) :=
  if v3 = 0 then none else if x_tag M v0 = 9 + 10 then (if x_at M (x_r M v0 36) 1 v8 = true then (if (x_i M (x_r M v0 36) v8.toNatClampNeg) ≤ v7 then (f_X9_fits_238 κ113 κ148 κ160 v0 v1 v2 v3 v4 v5 v6 v7 ((s1 * s0) + ((v6 + (1 : Int32)) - (v6 + (1 : Int32)) / v3 * v3)) M) else (x_lt (x_wi M (x_r M v0 36) v8.toNatClampNeg v7) (fun M77 => f_X9_fits_238 κ113 κ148 κ160 v0 v1 v2 v3 v4 v5 v6 v7 ((s1 * s0) + ((v6 + (1 : Int32)) - (v6 + (1 : Int32)) / v3 * v3)) M77))) else none) else none
set_option maxRecDepth 20000 in
set_option maxHeartbeats 4000000 in
theorem t_X9_fits_c204 (l : Launch) {κ113 : Nat → Int32 → Int32 → Int32 → Int32 → XM → Option (Int32 × XM)} {κ148 : Nat → Int32 → Int32 → Int32 → Int32 → Int32 → XM → Option (Int32 × XM)} {κ160 : Nat → Int32 → Int32 → Int32 → Int32 → Int32 → Int32 → XM → Option (Int32 × XM)} {v0 : Nat} {v1 : Int32} {v2 : Int32} {v3 : Int32} {v4 : Int32} {v5 : Int32} {v6 : Int32} {v7 : Int32} {v8 : Int32} {s1 : Int32} {s0 : Int32} {M : XM} {q : Int32 × XM} (hκ113 : ∀ (v0 : Nat) (v1 : Int32) (v2 : Int32) (v3 : Int32) (v4 : Int32) (M : XM), κ113 v0 v1 v2 v3 v4 M = some q → AW l m_X9_fits 3 0 0 (x_Ri q) 0 0 113 [some (.ref v0), some (.int v1), some (.int v2), some (.int v3), some (.int v4), none, none, none, none, none] [] M) (hκ148 : ∀ (v0 : Nat) (v1 : Int32) (v2 : Int32) (v3 : Int32) (v4 : Int32) (v5 : Int32) (M : XM), κ148 v0 v1 v2 v3 v4 v5 M = some q → AW l m_X9_fits 3 0 0 (x_Ri q) 0 0 148 [some (.ref v0), some (.int v1), some (.int v2), some (.int v3), some (.int v4), some (.int v5), none, none, none, none] [] M) (hκ160 : ∀ (v0 : Nat) (v1 : Int32) (v2 : Int32) (v3 : Int32) (v4 : Int32) (v5 : Int32) (v6 : Int32) (M : XM), κ160 v0 v1 v2 v3 v4 v5 v6 M = some q → AW l m_X9_fits 3 0 0 (x_Ri q) 0 0 160 [some (.ref v0), some (.int v1), some (.int v2), some (.int v3), some (.int v4), some (.int v5), some (.int v6), none, none, none] [] M) (H : f_X9_fits_c204 κ113 κ148 κ160 v0 v1 v2 v3 v4 v5 v6 v7 v8 s1 s0 M = some q) : AW l m_X9_fits 3 0 0 (x_Ri q) 0 0 207 [some (.ref v0), some (.int v1), some (.int v2), some (.int v3), some (.int v4), some (.int v5), some (.int v6), some (.int v7), some (.int v8), none] [(.int s0), (.int s1)] M := by
  unfold f_X9_fits_c204 at H
  refine x_imul 207 dX9_fits_207 ?_
  refine x_iload 208 6 dX9_fits_208 rfl ?_
  refine x_iconst 210 (1 : Int32) dX9_fits_210 (by decide) ?_
  refine x_iadd 211 dX9_fits_211 ?_
  refine x_iload_n 212 3 dX9_fits_212 rfl rfl ?_
  obtain ⟨h65, H⟩ := x_cnz H
  refine x_irem 213 dX9_fits_213 h65 ?_
  refine x_iadd 214 dX9_fits_214 ?_
  refine x_istore 215 9 [some (.ref v0), some (.int v1), some (.int v2), some (.int v3), some (.int v4), some (.int v5), some (.int v6), some (.int v7), some (.int v8), some (.int ((s1 * s0) + ((v6 + (1 : Int32)) - (v6 + (1 : Int32)) / v3 * v3)))] dX9_fits_215 rfl (Nat.le_of_ble_eq_true rfl) rfl ?_
  refine x_iload 217 7 dX9_fits_217 rfl ?_
  refine x_aload_n 219 0 dX9_fits_219 rfl rfl ?_
  obtain ⟨h66, H⟩ := x_ckp H
  refine x_getf 220 84 9 36 (.ref (x_r M v0 36)) dX9_fits_220 lk_1066 (by decide) (by decide) rfl (fun _ => rfl) h66 ?_
  refine x_iload 223 8 dX9_fits_223 rfl ?_
  obtain ⟨h67, H⟩ := x_ckp H
  refine x_iald 225 dX9_fits_225 h67 ?_
  refine x_icmp_ge 226 238 dX9_fits_226 (by decide) (fun c68 => ?_) (fun c68 => ?_)
  · replace H := x_ifp c68 H
    exact x_wk (le_s (le_s (le_s (le_s (le_s (le_s (le_s (le_s (le_n (le_s le_0)))))))))) (t_X9_fits_238 l hκ113 hκ148 hκ160 H)
  · replace H := x_ifn c68 H
    refine x_aload_n 229 0 dX9_fits_229 rfl rfl ?_
    refine x_getf 230 84 9 36 (.ref (x_r M v0 36)) dX9_fits_230 lk_1066 (by decide) (by decide) rfl (fun _ => rfl) h66 ?_
    refine x_iload 233 8 dX9_fits_233 rfl ?_
    refine x_iload 235 7 dX9_fits_235 rfl ?_
    obtain ⟨M77, w78, H⟩ := x_lt_of H
    have h79 : x_tag M77 v0 = 9 + 10 := by rw [w78]; exact h66
    have h80 : x_at M77 (x_r M v0 36) 1 v8 = true := by rw [w78]; exact h67
    have h81 : x_tag M77 (x_r M v0 36) = 1 := by rw [w78]; exact (x_at_1 h67)
    refine x_iast' 237 dX9_fits_237 h67 w78 ?_
    exact x_wk (le_s (le_s (le_s (le_s (le_s (le_s (le_s (le_s (le_n (le_s le_0)))))))))) (t_X9_fits_238 l hκ113 hκ148 hκ160 H)

def bd_X9_fits_160 (κ113 : Nat → Int32 → Int32 → Int32 → Int32 → XM → Option (Int32 × XM)) (κ148 : Nat → Int32 → Int32 → Int32 → Int32 → Int32 → XM → Option (Int32 × XM)) (κ160 : Nat → Int32 → Int32 → Int32 → Int32 → Int32 → Int32 → XM → Option (Int32 × XM)) (v0 : Nat) (v1 : Int32) (v2 : Int32) (v3 : Int32) (v4 : Int32) (v5 : Int32) (v6 : Int32) (M : XM) : Option (Int32 × XM) :=
  if v3 ≤ v6 then (κ148 v0 v1 v2 v3 v4 (v5 + (1 : Int32)) M) else (if x_tag M v0 = 9 + 10 then (if x_at M (x_r M v0 35) 1 (((10 : Int32) * v5) + v6) = true then (x_bd (f_X9_left v0 v1 v5 (v6 + (1 : Int32)) M) (f_X9_fits_c204 κ113 κ148 κ160 v0 v1 v2 v3 v4 v5 v6 (x_i M (x_r M v0 35) (((10 : Int32) * v5) + v6).toNatClampNeg) ((((10 : Int32) * v5) + (10 : Int32)) + v6) (10 : Int32))) else none) else none)
set_option maxRecDepth 20000 in
set_option maxHeartbeats 4000000 in
theorem tb_X9_fits_160 (l : Launch) {κ113 : Nat → Int32 → Int32 → Int32 → Int32 → XM → Option (Int32 × XM)} {κ148 : Nat → Int32 → Int32 → Int32 → Int32 → Int32 → XM → Option (Int32 × XM)} {κ160 : Nat → Int32 → Int32 → Int32 → Int32 → Int32 → Int32 → XM → Option (Int32 × XM)} {v0 : Nat} {v1 : Int32} {v2 : Int32} {v3 : Int32} {v4 : Int32} {v5 : Int32} {v6 : Int32} {M : XM} {q : Int32 × XM} (hκ113 : ∀ (v0 : Nat) (v1 : Int32) (v2 : Int32) (v3 : Int32) (v4 : Int32) (M : XM), κ113 v0 v1 v2 v3 v4 M = some q → AW l m_X9_fits 3 0 0 (x_Ri q) 0 0 113 [some (.ref v0), some (.int v1), some (.int v2), some (.int v3), some (.int v4), none, none, none, none, none] [] M) (hκ148 : ∀ (v0 : Nat) (v1 : Int32) (v2 : Int32) (v3 : Int32) (v4 : Int32) (v5 : Int32) (M : XM), κ148 v0 v1 v2 v3 v4 v5 M = some q → AW l m_X9_fits 3 0 0 (x_Ri q) 0 0 148 [some (.ref v0), some (.int v1), some (.int v2), some (.int v3), some (.int v4), some (.int v5), none, none, none, none] [] M) (hκ160 : ∀ (v0 : Nat) (v1 : Int32) (v2 : Int32) (v3 : Int32) (v4 : Int32) (v5 : Int32) (v6 : Int32) (M : XM), κ160 v0 v1 v2 v3 v4 v5 v6 M = some q → AW l m_X9_fits 3 0 0 (x_Ri q) 0 0 160 [some (.ref v0), some (.int v1), some (.int v2), some (.int v3), some (.int v4), some (.int v5), some (.int v6), none, none, none] [] M) (H : bd_X9_fits_160 κ113 κ148 κ160 v0 v1 v2 v3 v4 v5 v6 M = some q) : AW l m_X9_fits 3 0 0 (x_Ri q) 0 0 160 [some (.ref v0), some (.int v1), some (.int v2), some (.int v3), some (.int v4), some (.int v5), some (.int v6), none, none, none] [] M := by
  unfold bd_X9_fits_160 at H
  refine x_iload 160 6 dX9_fits_160 rfl ?_
  refine x_iload_n 162 3 dX9_fits_162 rfl rfl ?_
  refine x_icmp_ge 163 269 dX9_fits_163 (by decide) (fun c59 => ?_) (fun c59 => ?_)
  · replace H := x_ifp c59 H
    refine x_iinc 269 5 (v5 + (1 : Int32)) [some (.ref v0), some (.int v1), some (.int v2), some (.int v3), some (.int v4), some (.int (v5 + (1 : Int32))), some (.int v6), none, none, none] dX9_fits_269 rfl (congrArg (fun z : Int32 => v5 + z) (show Int32.ofInt (1) = (1 : Int32) by decide)) rfl (Nat.le_of_ble_eq_true rfl) rfl ?_
    refine x_goto 272 148 dX9_fits_272 (by decide) ?_
    exact x_wk (le_s (le_s (le_s (le_s (le_s (le_s (le_n (le_s (le_s (le_s le_0)))))))))) (hκ148 _ _ _ _ _ _ _ H)
  · replace H := x_ifn c59 H
    refine x_aload_n 166 0 dX9_fits_166 rfl rfl ?_
    obtain ⟨h60, H⟩ := x_ckp H
    refine x_getf 167 81 9 35 (.ref (x_r M v0 35)) dX9_fits_167 lk_1065 (by decide) (by decide) rfl (fun _ => rfl) h60 ?_
    refine x_bipush 170 (10 : Int32) dX9_fits_170 (by decide) ?_
    refine x_iload 172 5 dX9_fits_172 rfl ?_
    refine x_imul 174 dX9_fits_174 ?_
    refine x_iload 175 6 dX9_fits_175 rfl ?_
    refine x_iadd 177 dX9_fits_177 ?_
    obtain ⟨h61, H⟩ := x_ckp H
    refine x_iald 178 dX9_fits_178 h61 ?_
    refine x_istore 179 7 [some (.ref v0), some (.int v1), some (.int v2), some (.int v3), some (.int v4), some (.int v5), some (.int v6), some (.int (x_i M (x_r M v0 35) (((10 : Int32) * v5) + v6).toNatClampNeg)), none, none] dX9_fits_179 rfl (Nat.le_of_ble_eq_true rfl) rfl ?_
    refine x_bipush 181 (10 : Int32) dX9_fits_181 (by decide) ?_
    refine x_iload 183 5 dX9_fits_183 rfl ?_
    refine x_imul 185 dX9_fits_185 ?_
    refine x_bipush 186 (10 : Int32) dX9_fits_186 (by decide) ?_
    refine x_iadd 188 dX9_fits_188 ?_
    refine x_iload 189 6 dX9_fits_189 rfl ?_
    refine x_iadd 191 dX9_fits_191 ?_
    refine x_istore 192 8 [some (.ref v0), some (.int v1), some (.int v2), some (.int v3), some (.int v4), some (.int v5), some (.int v6), some (.int (x_i M (x_r M v0 35) (((10 : Int32) * v5) + v6).toNatClampNeg)), some (.int ((((10 : Int32) * v5) + (10 : Int32)) + v6)), none] dX9_fits_192 rfl (Nat.le_of_ble_eq_true rfl) rfl ?_
    refine x_bipush 194 (10 : Int32) dX9_fits_194 (by decide) ?_
    refine x_aload_n 196 0 dX9_fits_196 rfl rfl ?_
    refine x_iload_n 197 1 dX9_fits_197 rfl rfl ?_
    refine x_iload 198 5 dX9_fits_198 rfl ?_
    refine x_iload 200 6 dX9_fits_200 rfl ?_
    refine x_iconst 202 (1 : Int32) dX9_fits_202 (by decide) ?_
    refine x_iadd 203 dX9_fits_203 ?_
    obtain ⟨r63, M62, e64, H⟩ := x_bd_of H
    refine x_callV 204 183 9 [(.int v1), (.int v5), (.int (v6 + (1 : Int32)))] [(.int (10 : Int32))] dX9_fits_204 (ct_X9_left l e64) lk_1273 lk_1275 lk_53 (by decide) h60 lk_94 lk_1276 ⟨cn_X9_left, (by decide), by decide⟩ rfl (Nat.le_of_ble_eq_true rfl) (Nat.le_of_ble_eq_true rfl) (Nat.le_of_ble_eq_true rfl) (x_ri ?_)
    exact t_X9_fits_c204 l hκ113 hκ148 hκ160 H

def lp_X9_fits_160 (κ113 : Nat → Int32 → Int32 → Int32 → Int32 → XM → Option (Int32 × XM)) (κ148 : Nat → Int32 → Int32 → Int32 → Int32 → Int32 → XM → Option (Int32 × XM)) (n : Nat) : Nat → Int32 → Int32 → Int32 → Int32 → Int32 → Int32 → XM → Option (Int32 × XM) := x_rec (fun _ _ _ _ _ _ _ _ => none) (bd_X9_fits_160 κ113 κ148) n
theorem t_X9_fits_160 (l : Launch) {κ113 : Nat → Int32 → Int32 → Int32 → Int32 → XM → Option (Int32 × XM)} {κ148 : Nat → Int32 → Int32 → Int32 → Int32 → Int32 → XM → Option (Int32 × XM)} {q : Int32 × XM} (hκ113 : ∀ (v0 : Nat) (v1 : Int32) (v2 : Int32) (v3 : Int32) (v4 : Int32) (M : XM), κ113 v0 v1 v2 v3 v4 M = some q → AW l m_X9_fits 3 0 0 (x_Ri q) 0 0 113 [some (.ref v0), some (.int v1), some (.int v2), some (.int v3), some (.int v4), none, none, none, none, none] [] M) (hκ148 : ∀ (v0 : Nat) (v1 : Int32) (v2 : Int32) (v3 : Int32) (v4 : Int32) (v5 : Int32) (M : XM), κ148 v0 v1 v2 v3 v4 v5 M = some q → AW l m_X9_fits 3 0 0 (x_Ri q) 0 0 148 [some (.ref v0), some (.int v1), some (.int v2), some (.int v3), some (.int v4), some (.int v5), none, none, none, none] [] M) : ∀ (n : Nat) (v0 : Nat) (v1 : Int32) (v2 : Int32) (v3 : Int32) (v4 : Int32) (v5 : Int32) (v6 : Int32) (M : XM), lp_X9_fits_160 κ113 κ148 n v0 v1 v2 v3 v4 v5 v6 M = some q → AW l m_X9_fits 3 0 0 (x_Ri q) 0 0 160 [some (.ref v0), some (.int v1), some (.int v2), some (.int v3), some (.int v4), some (.int v5), some (.int v6), none, none, none] [] M := by
  intro n
  induction n with
  | zero => intro v0 v1 v2 v3 v4 v5 v6 M H; cases H
  | succ n ih => intro v0 v1 v2 v3 v4 v5 v6 M H; exact tb_X9_fits_160 l hκ113 hκ148 ih H
def bd_X9_fits_148 (κ113 : Nat → Int32 → Int32 → Int32 → Int32 → XM → Option (Int32 × XM)) (κ148 : Nat → Int32 → Int32 → Int32 → Int32 → Int32 → XM → Option (Int32 × XM)) (v0 : Nat) (v1 : Int32) (v2 : Int32) (v3 : Int32) (v4 : Int32) (v5 : Int32) (M : XM) : Option (Int32 × XM) :=
  if x_tag M v0 = 9 + 10 then (if (x_i M v0 1) ≤ v5 then (lp_X9_fits_278 κ113 x_fuel v0 v1 v2 v3 v4 (0 : Int32) M) else (lp_X9_fits_160 κ113 κ148 x_fuel v0 v1 v2 v3 v4 v5 (0 : Int32) M)) else none
set_option maxRecDepth 20000 in
set_option maxHeartbeats 4000000 in
theorem tb_X9_fits_148 (l : Launch) {κ113 : Nat → Int32 → Int32 → Int32 → Int32 → XM → Option (Int32 × XM)} {κ148 : Nat → Int32 → Int32 → Int32 → Int32 → Int32 → XM → Option (Int32 × XM)} {v0 : Nat} {v1 : Int32} {v2 : Int32} {v3 : Int32} {v4 : Int32} {v5 : Int32} {M : XM} {q : Int32 × XM} (hκ113 : ∀ (v0 : Nat) (v1 : Int32) (v2 : Int32) (v3 : Int32) (v4 : Int32) (M : XM), κ113 v0 v1 v2 v3 v4 M = some q → AW l m_X9_fits 3 0 0 (x_Ri q) 0 0 113 [some (.ref v0), some (.int v1), some (.int v2), some (.int v3), some (.int v4), none, none, none, none, none] [] M) (hκ148 : ∀ (v0 : Nat) (v1 : Int32) (v2 : Int32) (v3 : Int32) (v4 : Int32) (v5 : Int32) (M : XM), κ148 v0 v1 v2 v3 v4 v5 M = some q → AW l m_X9_fits 3 0 0 (x_Ri q) 0 0 148 [some (.ref v0), some (.int v1), some (.int v2), some (.int v3), some (.int v4), some (.int v5), none, none, none, none] [] M) (H : bd_X9_fits_148 κ113 κ148 v0 v1 v2 v3 v4 v5 M = some q) : AW l m_X9_fits 3 0 0 (x_Ri q) 0 0 148 [some (.ref v0), some (.int v1), some (.int v2), some (.int v3), some (.int v4), some (.int v5), none, none, none, none] [] M := by
  unfold bd_X9_fits_148 at H
  refine x_iload 148 5 dX9_fits_148 rfl ?_
  refine x_aload_n 150 0 dX9_fits_150 rfl rfl ?_
  obtain ⟨h46, H⟩ := x_ckp H
  refine x_getf 151 7 9 1 (.int (x_i M v0 1)) dX9_fits_151 lk_1031 (by decide) (by decide) rfl (fun _ => rfl) h46 ?_
  refine x_icmp_ge 154 275 dX9_fits_154 (by decide) (fun c47 => ?_) (fun c47 => ?_)
  · replace H := x_ifp c47 H
    refine x_iconst 275 (0 : Int32) dX9_fits_275 (by decide) ?_
    refine x_istore 276 5 [some (.ref v0), some (.int v1), some (.int v2), some (.int v3), some (.int v4), some (.int (0 : Int32)), none, none, none, none] dX9_fits_276 rfl (Nat.le_of_ble_eq_true rfl) rfl ?_
    exact t_X9_fits_278 l hκ113 _ _ _ _ _ _ _ _ H
  · replace H := x_ifn c47 H
    refine x_iconst 157 (0 : Int32) dX9_fits_157 (by decide) ?_
    refine x_istore 158 6 [some (.ref v0), some (.int v1), some (.int v2), some (.int v3), some (.int v4), some (.int v5), some (.int (0 : Int32)), none, none, none] dX9_fits_158 rfl (Nat.le_of_ble_eq_true rfl) rfl ?_
    exact t_X9_fits_160 l hκ113 hκ148 _ _ _ _ _ _ _ _ _ H

def lp_X9_fits_148 (κ113 : Nat → Int32 → Int32 → Int32 → Int32 → XM → Option (Int32 × XM)) (n : Nat) : Nat → Int32 → Int32 → Int32 → Int32 → Int32 → XM → Option (Int32 × XM) := x_rec (fun _ _ _ _ _ _ _ => none) (bd_X9_fits_148 κ113) n
theorem t_X9_fits_148 (l : Launch) {κ113 : Nat → Int32 → Int32 → Int32 → Int32 → XM → Option (Int32 × XM)} {q : Int32 × XM} (hκ113 : ∀ (v0 : Nat) (v1 : Int32) (v2 : Int32) (v3 : Int32) (v4 : Int32) (M : XM), κ113 v0 v1 v2 v3 v4 M = some q → AW l m_X9_fits 3 0 0 (x_Ri q) 0 0 113 [some (.ref v0), some (.int v1), some (.int v2), some (.int v3), some (.int v4), none, none, none, none, none] [] M) : ∀ (n : Nat) (v0 : Nat) (v1 : Int32) (v2 : Int32) (v3 : Int32) (v4 : Int32) (v5 : Int32) (M : XM), lp_X9_fits_148 κ113 n v0 v1 v2 v3 v4 v5 M = some q → AW l m_X9_fits 3 0 0 (x_Ri q) 0 0 148 [some (.ref v0), some (.int v1), some (.int v2), some (.int v3), some (.int v4), some (.int v5), none, none, none, none] [] M := by
  intro n
  induction n with
  | zero => intro v0 v1 v2 v3 v4 v5 M H; cases H
  | succ n ih => intro v0 v1 v2 v3 v4 v5 M H; exact tb_X9_fits_148 l hκ113 ih H
def bd_X9_fits_122 (κ113 : Nat → Int32 → Int32 → Int32 → Int32 → XM → Option (Int32 × XM)) (κ122 : Nat → Int32 → Int32 → Int32 → Int32 → Int32 → XM → Option (Int32 × XM)) (v0 : Nat) (v1 : Int32) (v2 : Int32) (v3 : Int32) (v4 : Int32) (v5 : Int32) (M : XM) : Option (Int32 × XM) :=
  if (2010 : Int32) ≤ v5 then (lp_X9_fits_148 κ113 x_fuel v0 v1 v2 v3 v4 (0 : Int32) M) else (if x_tag M v0 = 9 + 10 then (if x_at M (x_r M v0 36) 1 v5 = true then (x_lt (x_wi M (x_r M v0 36) v5.toNatClampNeg (9 : Int32)) (fun M84 => κ122 v0 v1 v2 v3 v4 (v5 + (1 : Int32)) M84)) else none) else none)
set_option maxRecDepth 20000 in
set_option maxHeartbeats 4000000 in
theorem tb_X9_fits_122 (l : Launch) {κ113 : Nat → Int32 → Int32 → Int32 → Int32 → XM → Option (Int32 × XM)} {κ122 : Nat → Int32 → Int32 → Int32 → Int32 → Int32 → XM → Option (Int32 × XM)} {v0 : Nat} {v1 : Int32} {v2 : Int32} {v3 : Int32} {v4 : Int32} {v5 : Int32} {M : XM} {q : Int32 × XM} (hκ113 : ∀ (v0 : Nat) (v1 : Int32) (v2 : Int32) (v3 : Int32) (v4 : Int32) (M : XM), κ113 v0 v1 v2 v3 v4 M = some q → AW l m_X9_fits 3 0 0 (x_Ri q) 0 0 113 [some (.ref v0), some (.int v1), some (.int v2), some (.int v3), some (.int v4), none, none, none, none, none] [] M) (hκ122 : ∀ (v0 : Nat) (v1 : Int32) (v2 : Int32) (v3 : Int32) (v4 : Int32) (v5 : Int32) (M : XM), κ122 v0 v1 v2 v3 v4 v5 M = some q → AW l m_X9_fits 3 0 0 (x_Ri q) 0 0 122 [some (.ref v0), some (.int v1), some (.int v2), some (.int v3), some (.int v4), some (.int v5), none, none, none, none] [] M) (H : bd_X9_fits_122 κ113 κ122 v0 v1 v2 v3 v4 v5 M = some q) : AW l m_X9_fits 3 0 0 (x_Ri q) 0 0 122 [some (.ref v0), some (.int v1), some (.int v2), some (.int v3), some (.int v4), some (.int v5), none, none, none, none] [] M := by
  unfold bd_X9_fits_122 at H
  refine x_iload 122 5 dX9_fits_122 rfl ?_
  refine x_sipush 124 (2010 : Int32) dX9_fits_124 (by decide) ?_
  refine x_icmp_ge 127 145 dX9_fits_127 (by decide) (fun c45 => ?_) (fun c45 => ?_)
  · replace H := x_ifp c45 H
    refine x_iconst 145 (0 : Int32) dX9_fits_145 (by decide) ?_
    refine x_istore 146 5 [some (.ref v0), some (.int v1), some (.int v2), some (.int v3), some (.int v4), some (.int (0 : Int32)), none, none, none, none] dX9_fits_146 rfl (Nat.le_of_ble_eq_true rfl) rfl ?_
    exact t_X9_fits_148 l hκ113 _ _ _ _ _ _ _ _ H
  · replace H := x_ifn c45 H
    refine x_aload_n 130 0 dX9_fits_130 rfl rfl ?_
    obtain ⟨h82, H⟩ := x_ckp H
    refine x_getf 131 84 9 36 (.ref (x_r M v0 36)) dX9_fits_131 lk_1066 (by decide) (by decide) rfl (fun _ => rfl) h82 ?_
    refine x_iload 134 5 dX9_fits_134 rfl ?_
    refine x_bipush 136 (9 : Int32) dX9_fits_136 (by decide) ?_
    obtain ⟨h83, H⟩ := x_ckp H
    obtain ⟨M84, w85, H⟩ := x_lt_of H
    have h86 : x_tag M84 v0 = 9 + 10 := by rw [w85]; exact h82
    have h87 : x_at M84 (x_r M v0 36) 1 v5 = true := by rw [w85]; exact h83
    have h88 : x_tag M84 (x_r M v0 36) = 1 := by rw [w85]; exact (x_at_1 h83)
    refine x_iast' 138 dX9_fits_138 h83 w85 ?_
    refine x_iinc 139 5 (v5 + (1 : Int32)) [some (.ref v0), some (.int v1), some (.int v2), some (.int v3), some (.int v4), some (.int (v5 + (1 : Int32))), none, none, none, none] dX9_fits_139 rfl (congrArg (fun z : Int32 => v5 + z) (show Int32.ofInt (1) = (1 : Int32) by decide)) rfl (Nat.le_of_ble_eq_true rfl) rfl ?_
    refine x_goto 142 122 dX9_fits_142 (by decide) ?_
    exact hκ122 _ _ _ _ _ _ _ H

def lp_X9_fits_122 (κ113 : Nat → Int32 → Int32 → Int32 → Int32 → XM → Option (Int32 × XM)) (n : Nat) : Nat → Int32 → Int32 → Int32 → Int32 → Int32 → XM → Option (Int32 × XM) := x_rec (fun _ _ _ _ _ _ _ => none) (bd_X9_fits_122 κ113) n
theorem t_X9_fits_122 (l : Launch) {κ113 : Nat → Int32 → Int32 → Int32 → Int32 → XM → Option (Int32 × XM)} {q : Int32 × XM} (hκ113 : ∀ (v0 : Nat) (v1 : Int32) (v2 : Int32) (v3 : Int32) (v4 : Int32) (M : XM), κ113 v0 v1 v2 v3 v4 M = some q → AW l m_X9_fits 3 0 0 (x_Ri q) 0 0 113 [some (.ref v0), some (.int v1), some (.int v2), some (.int v3), some (.int v4), none, none, none, none, none] [] M) : ∀ (n : Nat) (v0 : Nat) (v1 : Int32) (v2 : Int32) (v3 : Int32) (v4 : Int32) (v5 : Int32) (M : XM), lp_X9_fits_122 κ113 n v0 v1 v2 v3 v4 v5 M = some q → AW l m_X9_fits 3 0 0 (x_Ri q) 0 0 122 [some (.ref v0), some (.int v1), some (.int v2), some (.int v3), some (.int v4), some (.int v5), none, none, none, none] [] M := by
  intro n
  induction n with
  | zero => intro v0 v1 v2 v3 v4 v5 M H; cases H
  | succ n ih => intro v0 v1 v2 v3 v4 v5 M H; exact tb_X9_fits_122 l hκ113 ih H
def bd_X9_fits_113 (κ113 : Nat → Int32 → Int32 → Int32 → Int32 → XM → Option (Int32 × XM)) (v0 : Nat) (v1 : Int32) (v2 : Int32) (v3 : Int32) (v4 : Int32) (M : XM) : Option (Int32 × XM) :=
  if v2 ≤ v4 then (lp_X9_fits_319 x_fuel v0 v2 v3 (9 : Int32) (0 : Int32) M) else (lp_X9_fits_122 κ113 x_fuel v0 v1 v2 v3 v4 (0 : Int32) M)
set_option maxRecDepth 20000 in
set_option maxHeartbeats 4000000 in
theorem tb_X9_fits_113 (l : Launch) {κ113 : Nat → Int32 → Int32 → Int32 → Int32 → XM → Option (Int32 × XM)} {v0 : Nat} {v1 : Int32} {v2 : Int32} {v3 : Int32} {v4 : Int32} {M : XM} {q : Int32 × XM} (hκ113 : ∀ (v0 : Nat) (v1 : Int32) (v2 : Int32) (v3 : Int32) (v4 : Int32) (M : XM), κ113 v0 v1 v2 v3 v4 M = some q → AW l m_X9_fits 3 0 0 (x_Ri q) 0 0 113 [some (.ref v0), some (.int v1), some (.int v2), some (.int v3), some (.int v4), none, none, none, none, none] [] M) (H : bd_X9_fits_113 κ113 v0 v1 v2 v3 v4 M = some q) : AW l m_X9_fits 3 0 0 (x_Ri q) 0 0 113 [some (.ref v0), some (.int v1), some (.int v2), some (.int v3), some (.int v4), none, none, none, none, none] [] M := by
  unfold bd_X9_fits_113 at H
  refine x_iload 113 4 dX9_fits_113 rfl ?_
  refine x_iload_n 115 2 dX9_fits_115 rfl rfl ?_
  refine x_icmp_ge 116 312 dX9_fits_116 (by decide) (fun c38 => ?_) (fun c38 => ?_)
  · replace H := x_ifp c38 H
    refine x_bipush 312 (9 : Int32) dX9_fits_312 (by decide) ?_
    refine x_istore 314 4 [some (.ref v0), some (.int v1), some (.int v2), some (.int v3), some (.int (9 : Int32)), none, none, none, none, none] dX9_fits_314 rfl (Nat.le_of_ble_eq_true rfl) rfl ?_
    refine x_iconst 316 (0 : Int32) dX9_fits_316 (by decide) ?_
    refine x_istore 317 5 [some (.ref v0), some (.int v1), some (.int v2), some (.int v3), some (.int (9 : Int32)), some (.int (0 : Int32)), none, none, none, none] dX9_fits_317 rfl (Nat.le_of_ble_eq_true rfl) rfl ?_
    exact x_wk (le_s (le_n (le_s (le_s (le_s (le_s (le_s (le_s (le_s (le_s le_0)))))))))) (t_X9_fits_319 l _ _ _ _ _ _ _ H)
  · replace H := x_ifn c38 H
    refine x_iconst 119 (0 : Int32) dX9_fits_119 (by decide) ?_
    refine x_istore 120 5 [some (.ref v0), some (.int v1), some (.int v2), some (.int v3), some (.int v4), some (.int (0 : Int32)), none, none, none, none] dX9_fits_120 rfl (Nat.le_of_ble_eq_true rfl) rfl ?_
    exact t_X9_fits_122 l hκ113 _ _ _ _ _ _ _ _ H

def lp_X9_fits_113 (n : Nat) : Nat → Int32 → Int32 → Int32 → Int32 → XM → Option (Int32 × XM) := x_rec (fun _ _ _ _ _ _ => none) (bd_X9_fits_113) n
theorem t_X9_fits_113 (l : Launch) {q : Int32 × XM} : ∀ (n : Nat) (v0 : Nat) (v1 : Int32) (v2 : Int32) (v3 : Int32) (v4 : Int32) (M : XM), lp_X9_fits_113 n v0 v1 v2 v3 v4 M = some q → AW l m_X9_fits 3 0 0 (x_Ri q) 0 0 113 [some (.ref v0), some (.int v1), some (.int v2), some (.int v3), some (.int v4), none, none, none, none, none] [] M := by
  intro n
  induction n with
  | zero => intro v0 v1 v2 v3 v4 M H; cases H
  | succ n ih => intro v0 v1 v2 v3 v4 M H; exact tb_X9_fits_113 l ih H
def bd_X9_fits_63 (κ63 : Nat → Int32 → Int32 → Int32 → Int32 → XM → Option (Int32 × XM)) (v0 : Nat) (v1 : Int32) (v2 : Int32) (v3 : Int32) (v4 : Int32) (M : XM) : Option (Int32 × XM) :=
  if (2010 : Int32) ≤ v4 then (if x_tag M v0 = 9 + 10 then (if x_at M (x_r M v0 12) 1 v1 = true then (if x_at M (x_r M v0 14) 1 v1 = true then (if v3 = 0 then none else if x_at M (x_r M v0 35) 1 (((10 : Int32) * (x_i M (x_r M v0 12) v1.toNatClampNeg)) + ((x_i M (x_r M v0 14) v1.toNatClampNeg) - (x_i M (x_r M v0 14) v1.toNatClampNeg) / v3 * v3)) = true then (x_lt (x_wi M (x_r M v0 35) (((10 : Int32) * (x_i M (x_r M v0 12) v1.toNatClampNeg)) + ((x_i M (x_r M v0 14) v1.toNatClampNeg) - (x_i M (x_r M v0 14) v1.toNatClampNeg) / v3 * v3)).toNatClampNeg (0 : Int32)) (fun M29 => lp_X9_fits_113 x_fuel v0 v1 v2 v3 (0 : Int32) M29)) else none) else none) else none) else none) else (if x_tag M v0 = 9 + 10 then (if x_at M (x_r M v0 35) 1 v4 = true then (x_lt (x_wi M (x_r M v0 35) v4.toNatClampNeg (9 : Int32)) (fun M91 => κ63 v0 v1 v2 v3 (v4 + (1 : Int32)) M91)) else none) else none)
set_option maxRecDepth 20000 in
set_option maxHeartbeats 4000000 in
theorem tb_X9_fits_63 (l : Launch) {κ63 : Nat → Int32 → Int32 → Int32 → Int32 → XM → Option (Int32 × XM)} {v0 : Nat} {v1 : Int32} {v2 : Int32} {v3 : Int32} {v4 : Int32} {M : XM} {q : Int32 × XM} (hκ63 : ∀ (v0 : Nat) (v1 : Int32) (v2 : Int32) (v3 : Int32) (v4 : Int32) (M : XM), κ63 v0 v1 v2 v3 v4 M = some q → AW l m_X9_fits 3 0 0 (x_Ri q) 0 0 63 [some (.ref v0), some (.int v1), some (.int v2), some (.int v3), some (.int v4), none, none, none, none, none] [] M) (H : bd_X9_fits_63 κ63 v0 v1 v2 v3 v4 M = some q) : AW l m_X9_fits 3 0 0 (x_Ri q) 0 0 63 [some (.ref v0), some (.int v1), some (.int v2), some (.int v3), some (.int v4), none, none, none, none, none] [] M := by
  unfold bd_X9_fits_63 at H
  refine x_iload 63 4 dX9_fits_63 rfl ?_
  refine x_sipush 65 (2010 : Int32) dX9_fits_65 (by decide) ?_
  refine x_icmp_ge 68 86 dX9_fits_68 (by decide) (fun c23 => ?_) (fun c23 => ?_)
  · replace H := x_ifp c23 H
    refine x_aload_n 86 0 dX9_fits_86 rfl rfl ?_
    obtain ⟨h24, H⟩ := x_ckp H
    refine x_getf 87 81 9 35 (.ref (x_r M v0 35)) dX9_fits_87 lk_1065 (by decide) (by decide) rfl (fun _ => rfl) h24 ?_
    refine x_bipush 90 (10 : Int32) dX9_fits_90 (by decide) ?_
    refine x_aload_n 92 0 dX9_fits_92 rfl rfl ?_
    refine x_getf 93 38 9 12 (.ref (x_r M v0 12)) dX9_fits_93 lk_1042 (by decide) (by decide) rfl (fun _ => rfl) h24 ?_
    refine x_iload_n 96 1 dX9_fits_96 rfl rfl ?_
    obtain ⟨h25, H⟩ := x_ckp H
    refine x_iald 97 dX9_fits_97 h25 ?_
    refine x_imul 98 dX9_fits_98 ?_
    refine x_aload_n 99 0 dX9_fits_99 rfl rfl ?_
    refine x_getf 100 44 9 14 (.ref (x_r M v0 14)) dX9_fits_100 lk_1044 (by decide) (by decide) rfl (fun _ => rfl) h24 ?_
    refine x_iload_n 103 1 dX9_fits_103 rfl rfl ?_
    obtain ⟨h26, H⟩ := x_ckp H
    refine x_iald 104 dX9_fits_104 h26 ?_
    refine x_iload_n 105 3 dX9_fits_105 rfl rfl ?_
    obtain ⟨h27, H⟩ := x_cnz H
    refine x_irem 106 dX9_fits_106 h27 ?_
    refine x_iadd 107 dX9_fits_107 ?_
    refine x_iconst 108 (0 : Int32) dX9_fits_108 (by decide) ?_
    obtain ⟨h28, H⟩ := x_ckp H
    obtain ⟨M29, w30, H⟩ := x_lt_of H
    have h31 : x_tag M29 v0 = 9 + 10 := by rw [w30]; exact h24
    have h32 : x_at M29 (x_r M v0 12) 1 v1 = true := by rw [w30]; exact h25
    have h33 : x_tag M29 (x_r M v0 12) = 1 := by rw [w30]; exact (x_at_1 h25)
    have h34 : x_at M29 (x_r M v0 14) 1 v1 = true := by rw [w30]; exact h26
    have h35 : x_tag M29 (x_r M v0 14) = 1 := by rw [w30]; exact (x_at_1 h26)
    have h36 : x_at M29 (x_r M v0 35) 1 (((10 : Int32) * (x_i M (x_r M v0 12) v1.toNatClampNeg)) + ((x_i M (x_r M v0 14) v1.toNatClampNeg) - (x_i M (x_r M v0 14) v1.toNatClampNeg) / v3 * v3)) = true := by rw [w30]; exact h28
    have h37 : x_tag M29 (x_r M v0 35) = 1 := by rw [w30]; exact (x_at_1 h28)
    refine x_iast' 109 dX9_fits_109 h28 w30 ?_
    refine x_iconst 110 (0 : Int32) dX9_fits_110 (by decide) ?_
    refine x_istore 111 4 [some (.ref v0), some (.int v1), some (.int v2), some (.int v3), some (.int (0 : Int32)), none, none, none, none, none] dX9_fits_111 rfl (Nat.le_of_ble_eq_true rfl) rfl ?_
    exact t_X9_fits_113 l _ _ _ _ _ _ _ H
  · replace H := x_ifn c23 H
    refine x_aload_n 71 0 dX9_fits_71 rfl rfl ?_
    obtain ⟨h89, H⟩ := x_ckp H
    refine x_getf 72 81 9 35 (.ref (x_r M v0 35)) dX9_fits_72 lk_1065 (by decide) (by decide) rfl (fun _ => rfl) h89 ?_
    refine x_iload 75 4 dX9_fits_75 rfl ?_
    refine x_bipush 77 (9 : Int32) dX9_fits_77 (by decide) ?_
    obtain ⟨h90, H⟩ := x_ckp H
    obtain ⟨M91, w92, H⟩ := x_lt_of H
    have h93 : x_tag M91 v0 = 9 + 10 := by rw [w92]; exact h89
    have h94 : x_at M91 (x_r M v0 35) 1 v4 = true := by rw [w92]; exact h90
    have h95 : x_tag M91 (x_r M v0 35) = 1 := by rw [w92]; exact (x_at_1 h90)
    refine x_iast' 79 dX9_fits_79 h90 w92 ?_
    refine x_iinc 80 4 (v4 + (1 : Int32)) [some (.ref v0), some (.int v1), some (.int v2), some (.int v3), some (.int (v4 + (1 : Int32))), none, none, none, none, none] dX9_fits_80 rfl (congrArg (fun z : Int32 => v4 + z) (show Int32.ofInt (1) = (1 : Int32) by decide)) rfl (Nat.le_of_ble_eq_true rfl) rfl ?_
    refine x_goto 83 63 dX9_fits_83 (by decide) ?_
    exact hκ63 _ _ _ _ _ _ H

def lp_X9_fits_63 (n : Nat) : Nat → Int32 → Int32 → Int32 → Int32 → XM → Option (Int32 × XM) := x_rec (fun _ _ _ _ _ _ => none) (bd_X9_fits_63) n
theorem t_X9_fits_63 (l : Launch) {q : Int32 × XM} : ∀ (n : Nat) (v0 : Nat) (v1 : Int32) (v2 : Int32) (v3 : Int32) (v4 : Int32) (M : XM), lp_X9_fits_63 n v0 v1 v2 v3 v4 M = some q → AW l m_X9_fits 3 0 0 (x_Ri q) 0 0 63 [some (.ref v0), some (.int v1), some (.int v2), some (.int v3), some (.int v4), none, none, none, none, none] [] M := by
  intro n
  induction n with
  | zero => intro v0 v1 v2 v3 v4 M H; cases H
  | succ n ih => intro v0 v1 v2 v3 v4 M H; exact tb_X9_fits_63 l ih H
def f_X9_fits_c56 (v0 : Nat) (v1 : Int32) (v2 : Int32) (s0 : Int32) (M : XM) : Option (Int32 × XM) :=
  lp_X9_fits_63 x_fuel v0 v1 v2 s0 (0 : Int32) M
set_option maxRecDepth 20000 in
set_option maxHeartbeats 4000000 in
theorem t_X9_fits_c56 (l : Launch) {v0 : Nat} {v1 : Int32} {v2 : Int32} {s0 : Int32} {M : XM} {q : Int32 × XM} (H : f_X9_fits_c56 v0 v1 v2 s0 M = some q) : AW l m_X9_fits 3 0 0 (x_Ri q) 0 0 59 [some (.ref v0), some (.int v1), some (.int v2), none, none, none, none, none, none, none] [(.int s0)] M := by
  unfold f_X9_fits_c56 at H
  refine x_istore_n 59 3 [some (.ref v0), some (.int v1), some (.int v2), some (.int s0), none, none, none, none, none, none] dX9_fits_59 rfl rfl (Nat.le_of_ble_eq_true rfl) rfl ?_
  refine x_iconst 60 (0 : Int32) dX9_fits_60 (by decide) ?_
  refine x_istore 61 4 [some (.ref v0), some (.int v1), some (.int v2), some (.int s0), some (.int (0 : Int32)), none, none, none, none, none] dX9_fits_61 rfl (Nat.le_of_ble_eq_true rfl) rfl ?_
  exact t_X9_fits_63 l _ _ _ _ _ _ _ H

def f_X9_fits_c2 (v0 : Nat) (v1 : Int32) (v2 : Int32) (s0 : Int32) (M : XM) : Option (Int32 × XM) :=
  if s0 = 0 then (if x_tag M v0 = 9 + 10 then (x_bd (f_X9_noTen v0 (-1 : Int32) M) (fun r8 M7 => some (r8, M7))) else none) else (if v2 < 0 then (f_X9_fits_24 v0 M) else (if v2 ≤ (100 : Int32) then (if x_tag M v0 = 9 + 10 then (if x_at M (x_r M v0 12) 1 v1 = true then (if (x_i M (x_r M v0 12) v1.toNatClampNeg) = (x_i M v0 1) then (if v2 = 0 then (some ((0 : Int32), M)) else (some ((-1 : Int32), M))) else (x_bd (f_X9_turnsOf v0 v1 M) (f_X9_fits_c56 v0 v1 v2))) else none) else none) else (f_X9_fits_24 v0 M)))
set_option maxRecDepth 20000 in
set_option maxHeartbeats 4000000 in
theorem t_X9_fits_c2 (l : Launch) {v0 : Nat} {v1 : Int32} {v2 : Int32} {s0 : Int32} {M : XM} {q : Int32 × XM} (H : f_X9_fits_c2 v0 v1 v2 s0 M = some q) : AW l m_X9_fits 3 0 0 (x_Ri q) 0 0 5 [some (.ref v0), some (.int v1), some (.int v2), none, none, none, none, none, none, none] [(.int s0)] M := by
  unfold f_X9_fits_c2 at H
  refine x_if_ne 5 14 dX9_fits_5 (by decide) (fun c5 => ?_) (fun c5 => ?_)
  · replace H := x_ifn c5 H
    refine x_iload_n 14 2 dX9_fits_14 rfl rfl ?_
    refine x_if_lt 15 24 dX9_fits_15 (by decide) (fun c10 => ?_) (fun c10 => ?_)
    · replace H := x_ifp c10 H
      exact x_wk (le_s (le_n (le_n (le_s (le_s (le_s (le_s (le_s (le_s (le_s le_0)))))))))) (t_X9_fits_24 l H)
    · replace H := x_ifn c10 H
      refine x_iload_n 18 2 dX9_fits_18 rfl rfl ?_
      refine x_bipush 19 (100 : Int32) dX9_fits_19 (by decide) ?_
      refine x_icmp_le 21 31 dX9_fits_21 (by decide) (fun c15 => ?_) (fun c15 => ?_)
      · replace H := x_ifp c15 H
        refine x_aload_n 31 0 dX9_fits_31 rfl rfl ?_
        obtain ⟨h16, H⟩ := x_ckp H
        refine x_getf 32 38 9 12 (.ref (x_r M v0 12)) dX9_fits_32 lk_1042 (by decide) (by decide) rfl (fun _ => rfl) h16 ?_
        refine x_iload_n 35 1 dX9_fits_35 rfl rfl ?_
        obtain ⟨h17, H⟩ := x_ckp H
        refine x_iald 36 dX9_fits_36 h17 ?_
        refine x_aload_n 37 0 dX9_fits_37 rfl rfl ?_
        refine x_getf 38 7 9 1 (.int (x_i M v0 1)) dX9_fits_38 lk_1031 (by decide) (by decide) rfl (fun _ => rfl) h16 ?_
        refine x_icmp_ne 41 54 dX9_fits_41 (by decide) (fun c18 => ?_) (fun c18 => ?_)
        · replace H := x_ifn c18 H
          refine x_aload_n 54 0 dX9_fits_54 rfl rfl ?_
          refine x_iload_n 55 1 dX9_fits_55 rfl rfl ?_
          obtain ⟨r21, M20, e22, H⟩ := x_bd_of H
          refine x_callV 56 221 9 [(.int v1)] [] dX9_fits_56 (ct_X9_turnsOf l e22) lk_1334 lk_1336 lk_63 (by decide) h16 lk_94 lk_1337 ⟨cn_X9_turnsOf, (by decide), by decide⟩ rfl (Nat.le_of_ble_eq_true rfl) (Nat.le_of_ble_eq_true rfl) (Nat.le_of_ble_eq_true rfl) (x_ri ?_)
          exact t_X9_fits_c56 l H
        · replace H := x_ifp c18 H
          refine x_iload_n 44 2 dX9_fits_44 rfl rfl ?_
          refine x_if_ne 45 52 dX9_fits_45 (by decide) (fun c19 => ?_) (fun c19 => ?_)
          · replace H := x_ifn c19 H
            refine x_iconst 52 (-1 : Int32) dX9_fits_52 (by decide) ?_
            cases H
            exact x_iret 53 dX9_fits_53 .int rfl rfl (Nat.le_of_ble_eq_true rfl) (Nat.le_of_ble_eq_true rfl) ⟨rfl, rfl⟩
          · replace H := x_ifp c19 H
            refine x_iconst 48 (0 : Int32) dX9_fits_48 (by decide) ?_
            refine x_goto 49 53 dX9_fits_49 (by decide) ?_
            cases H
            exact x_iret 53 dX9_fits_53 .int rfl rfl (Nat.le_of_ble_eq_true rfl) (Nat.le_of_ble_eq_true rfl) ⟨rfl, rfl⟩
      · replace H := x_ifn c15 H
        exact x_wk (le_s (le_n (le_n (le_s (le_s (le_s (le_s (le_s (le_s (le_s le_0)))))))))) (t_X9_fits_24 l H)
  · replace H := x_ifp c5 H
    refine x_aload_n 8 0 dX9_fits_8 rfl rfl ?_
    refine x_iconst 9 (-1 : Int32) dX9_fits_9 (by decide) ?_
    obtain ⟨h6, H⟩ := x_ckp H
    obtain ⟨r8, M7, e9, H⟩ := x_bd_of H
    refine x_callV 10 212 9 [(.int (-1 : Int32))] [] dX9_fits_10 (ct_X9_noTen l e9) lk_1314 lk_1316 lk_59 (by decide) h6 lk_94 lk_1317 ⟨cn_X9_noTen, (by decide), by decide⟩ rfl (Nat.le_of_ble_eq_true rfl) (Nat.le_of_ble_eq_true rfl) (Nat.le_of_ble_eq_true rfl) (x_ri ?_)
    cases H
    exact x_iret 13 dX9_fits_13 .int rfl rfl (Nat.le_of_ble_eq_true rfl) (Nat.le_of_ble_eq_true rfl) ⟨rfl, rfl⟩

def f_X9_fits (v0 : Nat) (v1 : Int32) (v2 : Int32) (M : XM) : Option (Int32 × XM) :=
  if x_tag M v0 = 9 + 10 then (x_bd (f_X9_isCounter v0 v1 M) (f_X9_fits_c2 v0 v1 v2)) else none
set_option maxRecDepth 20000 in
set_option maxHeartbeats 4000000 in
theorem t_X9_fits (l : Launch) {v0 : Nat} {v1 : Int32} {v2 : Int32} {M : XM} {q : Int32 × XM} (H : f_X9_fits v0 v1 v2 M = some q) : AW l m_X9_fits 3 0 0 (x_Ri q) 0 0 0 [some (.ref v0), some (.int v1), some (.int v2), none, none, none, none, none, none, none] [] M := by
  unfold f_X9_fits at H
  refine x_aload_n 0 0 dX9_fits_0 rfl rfl ?_
  refine x_iload_n 1 1 dX9_fits_1 rfl rfl ?_
  obtain ⟨h1, H⟩ := x_ckp H
  obtain ⟨r3, M2, e4, H⟩ := x_bd_of H
  refine x_callV 2 104 9 [(.int v1)] [] dX9_fits_2 (ct_X9_isCounter l e4) lk_1185 lk_1187 lk_38 (by decide) h1 lk_94 lk_1188 ⟨cn_X9_isCounter, (by decide), by decide⟩ rfl (Nat.le_of_ble_eq_true rfl) (Nat.le_of_ble_eq_true rfl) (Nat.le_of_ble_eq_true rfl) (x_ri ?_)
  exact t_X9_fits_c2 l H

theorem ct_X9_fits (l : Launch) {v0 : Nat} {v1 : Int32} {v2 : Int32} {M : XM} {q : Int32 × XM} (H : f_X9_fits v0 v1 v2 M = some q) : Ct l m_X9_fits 3 0 0 [(.ref v0), (.int v1), (.int v2)] M (x_Ri q) := x_met l m_X9_fits 3 0 0 [(.ref v0), (.int v1), (.int v2)] M (x_Ri q) _ rfl rfl (Nat.le_of_ble_eq_true rfl) (t_X9_fits l H)
theorem lk_1067 : Cond.fieldLink RX9 245 RX9 "broke" "I" ∈ x_TB := x_tb (k := 1067) (by decide +kernel) rfl
abbrev m_X9_wrongIn : XU := (yX9_wrongIn, cX9_wrongIn, 8, (some .int))
theorem cn_X9_wrongIn : m_X9_wrongIn.1.cls ≠ "java/lang/invoke/MethodHandle" ∧ m_X9_wrongIn.1.cls ≠ "java/lang/invoke/VarHandle" ∧ (parseMethodDescriptor m_X9_wrongIn.1.desc).map (fun q => q.parameters.length) = some 3 := by decide +kernel
def f_X9_wrongIn_90 (κ24 : Nat → Int32 → Int32 → Int32 → Int32 → Int32 → Int32 → XM → Option (Int32 × XM)) (v0 : Nat) (v1 : Int32) (v2 : Int32) (v3 : Int32) (v5 : Int32) (v6 : Int32) (v7 : Int32) (M : XM) : Option (Int32 × XM) :=
  κ24 v0 v1 v2 v3 v7 v5 (v6 + (1 : Int32)) M
set_option maxRecDepth 20000 in
set_option maxHeartbeats 4000000 in
theorem t_X9_wrongIn_90 (l : Launch) {κ24 : Nat → Int32 → Int32 → Int32 → Int32 → Int32 → Int32 → XM → Option (Int32 × XM)} {v0 : Nat} {v1 : Int32} {v2 : Int32} {v3 : Int32} {v5 : Int32} {v6 : Int32} {v7 : Int32} {M : XM} {q : Int32 × XM} (hκ24 : ∀ (v0 : Nat) (v1 : Int32) (v2 : Int32) (v3 : Int32) (v4 : Int32) (v5 : Int32) (v6 : Int32) (M : XM), κ24 v0 v1 v2 v3 v4 v5 v6 M = some q → AW l m_X9_wrongIn 2 0 0 (x_Ri q) 0 0 24 [some (.ref v0), some (.int v1), some (.int v2), some (.int v3), some (.int v4), some (.int v5), some (.int v6), none] [] M) (H : f_X9_wrongIn_90 κ24 v0 v1 v2 v3 v5 v6 v7 M = some q) : AW l m_X9_wrongIn 2 0 0 (x_Ri q) 0 0 90 [some (.ref v0), some (.int v1), some (.int v2), some (.int v3), none, some (.int v5), some (.int v6), some (.int v7)] [] M := by
  unfold f_X9_wrongIn_90 at H
  refine x_iload 90 7 dX9_wrongIn_90 rfl ?_
  refine x_istore 92 4 [some (.ref v0), some (.int v1), some (.int v2), some (.int v3), some (.int v7), some (.int v5), some (.int v6), some (.int v7)] dX9_wrongIn_92 rfl (Nat.le_of_ble_eq_true rfl) rfl ?_
  refine x_iinc 94 6 (v6 + (1 : Int32)) [some (.ref v0), some (.int v1), some (.int v2), some (.int v3), some (.int v7), some (.int v5), some (.int (v6 + (1 : Int32))), some (.int v7)] dX9_wrongIn_94 rfl (congrArg (fun z : Int32 => v6 + z) (show Int32.ofInt (1) = (1 : Int32) by decide)) rfl (Nat.le_of_ble_eq_true rfl) rfl ?_
  refine x_goto 97 24 dX9_wrongIn_97 (by decide) ?_
  exact x_wk (le_s (le_s (le_s (le_s (le_s (le_s (le_s (le_n le_0)))))))) (hκ24 _ _ _ _ _ _ _ _ H)

def f_X9_wrongIn_c71 (κ24 : Nat → Int32 → Int32 → Int32 → Int32 → Int32 → Int32 → XM → Option (Int32 × XM)) (v0 : Nat) (v1 : Int32) (v2 : Int32) (v3 : Int32) (v5 : Int32) (v6 : Int32) (v7 : Int32) (s1 : Int32) (s0 : Int32) (M : XM) : Option (Int32 × XM) :=
  if s1 = s0 then (if x_tag M v0 = 9 + 10 then (x_lt (x_wi M v0 37 ((x_i M v0 37) + (1 : Int32))) (fun M24 => f_X9_wrongIn_90 κ24 v0 v1 v2 v3 v5 v6 v7 M24)) else none) else (some (v6, M))
set_option maxRecDepth 20000 in
set_option maxHeartbeats 4000000 in
theorem t_X9_wrongIn_c71 (l : Launch) {κ24 : Nat → Int32 → Int32 → Int32 → Int32 → Int32 → Int32 → XM → Option (Int32 × XM)} {v0 : Nat} {v1 : Int32} {v2 : Int32} {v3 : Int32} {v5 : Int32} {v6 : Int32} {v7 : Int32} {s1 : Int32} {s0 : Int32} {M : XM} {q : Int32 × XM} (hκ24 : ∀ (v0 : Nat) (v1 : Int32) (v2 : Int32) (v3 : Int32) (v4 : Int32) (v5 : Int32) (v6 : Int32) (M : XM), κ24 v0 v1 v2 v3 v4 v5 v6 M = some q → AW l m_X9_wrongIn 2 0 0 (x_Ri q) 0 0 24 [some (.ref v0), some (.int v1), some (.int v2), some (.int v3), some (.int v4), some (.int v5), some (.int v6), none] [] M) (H : f_X9_wrongIn_c71 κ24 v0 v1 v2 v3 v5 v6 v7 s1 s0 M = some q) : AW l m_X9_wrongIn 2 0 0 (x_Ri q) 0 0 74 [some (.ref v0), some (.int v1), some (.int v2), some (.int v3), none, some (.int v5), some (.int v6), some (.int v7)] [(.int s0), (.int s1)] M := by
  unfold f_X9_wrongIn_c71 at H
  refine x_icmp_eq 74 80 dX9_wrongIn_74 (by decide) (fun c22 => ?_) (fun c22 => ?_)
  · replace H := x_ifp c22 H
    refine x_aload_n 80 0 dX9_wrongIn_80 rfl rfl ?_
    refine x_dup 81 dX9_wrongIn_81 rfl ?_
    obtain ⟨h23, H⟩ := x_ckp H
    refine x_getf 82 245 9 37 (.int (x_i M v0 37)) dX9_wrongIn_82 lk_1067 (by decide) (by decide) rfl (fun _ => rfl) h23 ?_
    refine x_iconst 85 (1 : Int32) dX9_wrongIn_85 (by decide) ?_
    refine x_iadd 86 dX9_wrongIn_86 ?_
    obtain ⟨M24, w25, H⟩ := x_lt_of H
    have h26 : x_tag M24 v0 = 9 + 10 := by rw [w25]; exact h23
    refine x_putI' 87 245 9 37 dX9_wrongIn_87 lk_1067 (by decide) (by decide) rfl (Or.inl rfl) (Or.inl rfl) h23 w25 ?_
    exact t_X9_wrongIn_90 l hκ24 H
  · replace H := x_ifn c22 H
    refine x_iload 77 6 dX9_wrongIn_77 rfl ?_
    cases H
    exact x_iret 79 dX9_wrongIn_79 .int rfl rfl (Nat.le_of_ble_eq_true rfl) (Nat.le_of_ble_eq_true rfl) ⟨rfl, rfl⟩

def f_X9_wrongIn_c34 (κ24 : Nat → Int32 → Int32 → Int32 → Int32 → Int32 → Int32 → XM → Option (Int32 × XM)) (v0 : Nat) (v1 : Int32) (v2 : Int32) (v3 : Int32) (v4 : Int32) (v5 : Int32) (v6 : Int32) (s0 : Int32) (M : XM) : Option (Int32 × XM) :=
  if x_tag M v0 = 9 + 10 then (if v4 = (x_i M v0 1) then (some (v6, M)) else (if s0 = (v4 + (1 : Int32)) then (f_X9_wrongIn_90 κ24 v0 v1 v2 v3 v5 v6 s0 M) else (x_bd (f_X9_left v0 v1 v4 (v5 + (1 : Int32)) M) (f_X9_wrongIn_c71 κ24 v0 v1 v2 v3 (v5 + (1 : Int32)) v6 s0 s0)))) else none
set_option maxRecDepth 20000 in
set_option maxHeartbeats 4000000 in
theorem t_X9_wrongIn_c34 (l : Launch) {κ24 : Nat → Int32 → Int32 → Int32 → Int32 → Int32 → Int32 → XM → Option (Int32 × XM)} {v0 : Nat} {v1 : Int32} {v2 : Int32} {v3 : Int32} {v4 : Int32} {v5 : Int32} {v6 : Int32} {s0 : Int32} {M : XM} {q : Int32 × XM} (hκ24 : ∀ (v0 : Nat) (v1 : Int32) (v2 : Int32) (v3 : Int32) (v4 : Int32) (v5 : Int32) (v6 : Int32) (M : XM), κ24 v0 v1 v2 v3 v4 v5 v6 M = some q → AW l m_X9_wrongIn 2 0 0 (x_Ri q) 0 0 24 [some (.ref v0), some (.int v1), some (.int v2), some (.int v3), some (.int v4), some (.int v5), some (.int v6), none] [] M) (H : f_X9_wrongIn_c34 κ24 v0 v1 v2 v3 v4 v5 v6 s0 M = some q) : AW l m_X9_wrongIn 2 0 0 (x_Ri q) 0 0 37 [some (.ref v0), some (.int v1), some (.int v2), some (.int v3), some (.int v4), some (.int v5), some (.int v6), none] [(.int s0)] M := by
  unfold f_X9_wrongIn_c34 at H
  refine x_istore 37 7 [some (.ref v0), some (.int v1), some (.int v2), some (.int v3), some (.int v4), some (.int v5), some (.int v6), some (.int s0)] dX9_wrongIn_37 rfl (Nat.le_of_ble_eq_true rfl) rfl ?_
  refine x_iload 39 4 dX9_wrongIn_39 rfl ?_
  refine x_aload_n 41 0 dX9_wrongIn_41 rfl rfl ?_
  obtain ⟨h16, H⟩ := x_ckp H
  refine x_getf 42 7 9 1 (.int (x_i M v0 1)) dX9_wrongIn_42 lk_1031 (by decide) (by decide) rfl (fun _ => rfl) h16 ?_
  refine x_icmp_ne 45 51 dX9_wrongIn_45 (by decide) (fun c17 => ?_) (fun c17 => ?_)
  · replace H := x_ifn c17 H
    refine x_iload 51 7 dX9_wrongIn_51 rfl ?_
    refine x_iload 53 4 dX9_wrongIn_53 rfl ?_
    refine x_iconst 55 (1 : Int32) dX9_wrongIn_55 (by decide) ?_
    refine x_iadd 56 dX9_wrongIn_56 ?_
    refine x_icmp_eq 57 90 dX9_wrongIn_57 (by decide) (fun c18 => ?_) (fun c18 => ?_)
    · replace H := x_ifp c18 H
      exact x_wk (le_s (le_s (le_s (le_s (le_n (le_s (le_s (le_s le_0)))))))) (t_X9_wrongIn_90 l hκ24 H)
    · replace H := x_ifn c18 H
      refine x_iinc 60 5 (v5 + (1 : Int32)) [some (.ref v0), some (.int v1), some (.int v2), some (.int v3), some (.int v4), some (.int (v5 + (1 : Int32))), some (.int v6), some (.int s0)] dX9_wrongIn_60 rfl (congrArg (fun z : Int32 => v5 + z) (show Int32.ofInt (1) = (1 : Int32) by decide)) rfl (Nat.le_of_ble_eq_true rfl) rfl ?_
      refine x_iload 63 7 dX9_wrongIn_63 rfl ?_
      refine x_aload_n 65 0 dX9_wrongIn_65 rfl rfl ?_
      refine x_iload_n 66 1 dX9_wrongIn_66 rfl rfl ?_
      refine x_iload 67 4 dX9_wrongIn_67 rfl ?_
      refine x_iload 69 5 dX9_wrongIn_69 rfl ?_
      obtain ⟨r20, M19, e21, H⟩ := x_bd_of H
      refine x_callV 71 183 9 [(.int v1), (.int v4), (.int (v5 + (1 : Int32)))] [(.int s0)] dX9_wrongIn_71 (ct_X9_left l e21) lk_1273 lk_1275 lk_53 (by decide) h16 lk_94 lk_1276 ⟨cn_X9_left, (by decide), by decide⟩ rfl (Nat.le_of_ble_eq_true rfl) (Nat.le_of_ble_eq_true rfl) (Nat.le_of_ble_eq_true rfl) (x_ri ?_)
      exact x_wk (le_s (le_s (le_s (le_s (le_n (le_s (le_s (le_s le_0)))))))) (t_X9_wrongIn_c71 l hκ24 H)
  · replace H := x_ifp c17 H
    refine x_iload 48 6 dX9_wrongIn_48 rfl ?_
    cases H
    exact x_iret 50 dX9_wrongIn_50 .int rfl rfl (Nat.le_of_ble_eq_true rfl) (Nat.le_of_ble_eq_true rfl) ⟨rfl, rfl⟩

def bd_X9_wrongIn_24 (κ24 : Nat → Int32 → Int32 → Int32 → Int32 → Int32 → Int32 → XM → Option (Int32 × XM)) (v0 : Nat) (v1 : Int32) (v2 : Int32) (v3 : Int32) (v4 : Int32) (v5 : Int32) (v6 : Int32) (M : XM) : Option (Int32 × XM) :=
  if v3 ≤ v6 then (some ((-1 : Int32), M)) else (if x_tag M v0 = 9 + 10 then (x_bd (f_X9_intAt v0 v2 v6 M) (f_X9_wrongIn_c34 κ24 v0 v1 v2 v3 v4 v5 v6)) else none)
set_option maxRecDepth 20000 in
set_option maxHeartbeats 4000000 in
theorem tb_X9_wrongIn_24 (l : Launch) {κ24 : Nat → Int32 → Int32 → Int32 → Int32 → Int32 → Int32 → XM → Option (Int32 × XM)} {v0 : Nat} {v1 : Int32} {v2 : Int32} {v3 : Int32} {v4 : Int32} {v5 : Int32} {v6 : Int32} {M : XM} {q : Int32 × XM} (hκ24 : ∀ (v0 : Nat) (v1 : Int32) (v2 : Int32) (v3 : Int32) (v4 : Int32) (v5 : Int32) (v6 : Int32) (M : XM), κ24 v0 v1 v2 v3 v4 v5 v6 M = some q → AW l m_X9_wrongIn 2 0 0 (x_Ri q) 0 0 24 [some (.ref v0), some (.int v1), some (.int v2), some (.int v3), some (.int v4), some (.int v5), some (.int v6), none] [] M) (H : bd_X9_wrongIn_24 κ24 v0 v1 v2 v3 v4 v5 v6 M = some q) : AW l m_X9_wrongIn 2 0 0 (x_Ri q) 0 0 24 [some (.ref v0), some (.int v1), some (.int v2), some (.int v3), some (.int v4), some (.int v5), some (.int v6), none] [] M := by
  unfold bd_X9_wrongIn_24 at H
  refine x_iload 24 6 dX9_wrongIn_24 rfl ?_
  refine x_iload_n 26 3 dX9_wrongIn_26 rfl rfl ?_
  refine x_icmp_ge 27 100 dX9_wrongIn_27 (by decide) (fun c11 => ?_) (fun c11 => ?_)
  · replace H := x_ifp c11 H
    refine x_iconst 100 (-1 : Int32) dX9_wrongIn_100 (by decide) ?_
    cases H
    exact x_iret 101 dX9_wrongIn_101 .int rfl rfl (Nat.le_of_ble_eq_true rfl) (Nat.le_of_ble_eq_true rfl) ⟨rfl, rfl⟩
  · replace H := x_ifn c11 H
    refine x_aload_n 30 0 dX9_wrongIn_30 rfl rfl ?_
    refine x_iload_n 31 2 dX9_wrongIn_31 rfl rfl ?_
    refine x_iload 32 6 dX9_wrongIn_32 rfl ?_
    obtain ⟨h12, H⟩ := x_ckp H
    obtain ⟨r14, M13, e15, H⟩ := x_bd_of H
    refine x_callV 34 110 9 [(.int v2), (.int v6)] [] dX9_wrongIn_34 (ct_X9_intAt l e15) lk_1298 lk_1300 lk_56 (by decide) h12 lk_94 lk_1301 ⟨cn_X9_intAt, (by decide), by decide⟩ rfl (Nat.le_of_ble_eq_true rfl) (Nat.le_of_ble_eq_true rfl) (Nat.le_of_ble_eq_true rfl) (x_ri ?_)
    exact t_X9_wrongIn_c34 l hκ24 H

def lp_X9_wrongIn_24 (n : Nat) : Nat → Int32 → Int32 → Int32 → Int32 → Int32 → Int32 → XM → Option (Int32 × XM) := x_rec (fun _ _ _ _ _ _ _ _ => none) (bd_X9_wrongIn_24) n
theorem t_X9_wrongIn_24 (l : Launch) {q : Int32 × XM} : ∀ (n : Nat) (v0 : Nat) (v1 : Int32) (v2 : Int32) (v3 : Int32) (v4 : Int32) (v5 : Int32) (v6 : Int32) (M : XM), lp_X9_wrongIn_24 n v0 v1 v2 v3 v4 v5 v6 M = some q → AW l m_X9_wrongIn 2 0 0 (x_Ri q) 0 0 24 [some (.ref v0), some (.int v1), some (.int v2), some (.int v3), some (.int v4), some (.int v5), some (.int v6), none] [] M := by
  intro n
  induction n with
  | zero => intro v0 v1 v2 v3 v4 v5 v6 M H; cases H
  | succ n ih => intro v0 v1 v2 v3 v4 v5 v6 M H; exact tb_X9_wrongIn_24 l ih H
def f_X9_wrongIn (v0 : Nat) (v1 : Int32) (v2 : Int32) (v3 : Int32) (M : XM) : Option (Int32 × XM) :=
  if x_tag M v0 = 9 + 10 then (if x_at M (x_r M v0 12) 1 v1 = true then (if x_at M (x_r M v0 14) 1 v1 = true then (x_lt (x_wi M v0 37 (0 : Int32)) (fun M4 => lp_X9_wrongIn_24 x_fuel v0 v1 v2 v3 (x_i M (x_r M v0 12) v1.toNatClampNeg) (x_i M (x_r M v0 14) v1.toNatClampNeg) (0 : Int32) M4)) else none) else none) else none
set_option maxRecDepth 20000 in
set_option maxHeartbeats 4000000 in
theorem t_X9_wrongIn (l : Launch) {v0 : Nat} {v1 : Int32} {v2 : Int32} {v3 : Int32} {M : XM} {q : Int32 × XM} (H : f_X9_wrongIn v0 v1 v2 v3 M = some q) : AW l m_X9_wrongIn 2 0 0 (x_Ri q) 0 0 0 [some (.ref v0), some (.int v1), some (.int v2), some (.int v3), none, none, none, none] [] M := by
  unfold f_X9_wrongIn at H
  refine x_aload_n 0 0 dX9_wrongIn_0 rfl rfl ?_
  obtain ⟨h1, H⟩ := x_ckp H
  refine x_getf 1 38 9 12 (.ref (x_r M v0 12)) dX9_wrongIn_1 lk_1042 (by decide) (by decide) rfl (fun _ => rfl) h1 ?_
  refine x_iload_n 4 1 dX9_wrongIn_4 rfl rfl ?_
  obtain ⟨h2, H⟩ := x_ckp H
  refine x_iald 5 dX9_wrongIn_5 h2 ?_
  refine x_istore 6 4 [some (.ref v0), some (.int v1), some (.int v2), some (.int v3), some (.int (x_i M (x_r M v0 12) v1.toNatClampNeg)), none, none, none] dX9_wrongIn_6 rfl (Nat.le_of_ble_eq_true rfl) rfl ?_
  refine x_aload_n 8 0 dX9_wrongIn_8 rfl rfl ?_
  refine x_getf 9 44 9 14 (.ref (x_r M v0 14)) dX9_wrongIn_9 lk_1044 (by decide) (by decide) rfl (fun _ => rfl) h1 ?_
  refine x_iload_n 12 1 dX9_wrongIn_12 rfl rfl ?_
  obtain ⟨h3, H⟩ := x_ckp H
  refine x_iald 13 dX9_wrongIn_13 h3 ?_
  refine x_istore 14 5 [some (.ref v0), some (.int v1), some (.int v2), some (.int v3), some (.int (x_i M (x_r M v0 12) v1.toNatClampNeg)), some (.int (x_i M (x_r M v0 14) v1.toNatClampNeg)), none, none] dX9_wrongIn_14 rfl (Nat.le_of_ble_eq_true rfl) rfl ?_
  refine x_aload_n 16 0 dX9_wrongIn_16 rfl rfl ?_
  refine x_iconst 17 (0 : Int32) dX9_wrongIn_17 (by decide) ?_
  obtain ⟨M4, w5, H⟩ := x_lt_of H
  have h6 : x_tag M4 v0 = 9 + 10 := by rw [w5]; exact h1
  have h7 : x_at M4 (x_r M v0 12) 1 v1 = true := by rw [w5]; exact h2
  have h8 : x_tag M4 (x_r M v0 12) = 1 := by rw [w5]; exact (x_at_1 h2)
  have h9 : x_at M4 (x_r M v0 14) 1 v1 = true := by rw [w5]; exact h3
  have h10 : x_tag M4 (x_r M v0 14) = 1 := by rw [w5]; exact (x_at_1 h3)
  refine x_putI' 18 245 9 37 dX9_wrongIn_18 lk_1067 (by decide) (by decide) rfl (Or.inl rfl) (Or.inl rfl) h1 w5 ?_
  refine x_iconst 21 (0 : Int32) dX9_wrongIn_21 (by decide) ?_
  refine x_istore 22 6 [some (.ref v0), some (.int v1), some (.int v2), some (.int v3), some (.int (x_i M (x_r M v0 12) v1.toNatClampNeg)), some (.int (x_i M (x_r M v0 14) v1.toNatClampNeg)), some (.int (0 : Int32)), none] dX9_wrongIn_22 rfl (Nat.le_of_ble_eq_true rfl) rfl ?_
  exact t_X9_wrongIn_24 l _ _ _ _ _ _ _ _ _ H

theorem ct_X9_wrongIn (l : Launch) {v0 : Nat} {v1 : Int32} {v2 : Int32} {v3 : Int32} {M : XM} {q : Int32 × XM} (H : f_X9_wrongIn v0 v1 v2 v3 M = some q) : Ct l m_X9_wrongIn 2 0 0 [(.ref v0), (.int v1), (.int v2), (.int v3)] M (x_Ri q) := x_met l m_X9_wrongIn 2 0 0 [(.ref v0), (.int v1), (.int v2), (.int v3)] M (x_Ri q) _ rfl rfl (Nat.le_of_ble_eq_true rfl) (t_X9_wrongIn l H)
abbrev m_X9_barsOf : XU := (yX9_barsOf, cX9_barsOf, 5, (some .int))
theorem cn_X9_barsOf : m_X9_barsOf.1.cls ≠ "java/lang/invoke/MethodHandle" ∧ m_X9_barsOf.1.cls ≠ "java/lang/invoke/VarHandle" ∧ (parseMethodDescriptor m_X9_barsOf.1.desc).map (fun q => q.parameters.length) = some 3 := by decide +kernel
def f_X9_barsOf_26 (v3 : Int32) (s0 : Int32) (M : XM) : Option (Int32 × XM) :=
  if s0 = 0 then (if v3 ≤ (40 : Int32) then (some (s0, M)) else (some ((-6 : Int32), M))) else (some (s0, M))
set_option maxRecDepth 20000 in
set_option maxHeartbeats 4000000 in
theorem t_X9_barsOf_26 (l : Launch) {v3 : Int32} {s0 : Int32} {M : XM} {q : Int32 × XM} (H : f_X9_barsOf_26 v3 s0 M = some q) : AW l m_X9_barsOf 4 0 0 (x_Ri q) 0 0 26 [none, none, none, some (.int v3), none] [(.int s0)] M := by
  unfold f_X9_barsOf_26 at H
  refine x_istore 26 4 [none, none, none, some (.int v3), some (.int s0)] dX9_barsOf_26 rfl (Nat.le_of_ble_eq_true rfl) rfl ?_
  refine x_iload 28 4 dX9_barsOf_28 rfl ?_
  refine x_if_ne 30 44 dX9_barsOf_30 (by decide) (fun c10 => ?_) (fun c10 => ?_)
  · replace H := x_ifn c10 H
    refine x_iload 44 4 dX9_barsOf_44 rfl ?_
    cases H
    exact x_iret 46 dX9_barsOf_46 .int rfl rfl (Nat.le_of_ble_eq_true rfl) (Nat.le_of_ble_eq_true rfl) ⟨rfl, rfl⟩
  · replace H := x_ifp c10 H
    refine x_iload_n 33 3 dX9_barsOf_33 rfl rfl ?_
    refine x_bipush 34 (40 : Int32) dX9_barsOf_34 (by decide) ?_
    refine x_icmp_le 36 44 dX9_barsOf_36 (by decide) (fun c11 => ?_) (fun c11 => ?_)
    · replace H := x_ifp c11 H
      refine x_iload 44 4 dX9_barsOf_44 rfl ?_
      cases H
      exact x_iret 46 dX9_barsOf_46 .int rfl rfl (Nat.le_of_ble_eq_true rfl) (Nat.le_of_ble_eq_true rfl) ⟨rfl, rfl⟩
    · replace H := x_ifn c11 H
      refine x_bipush 39 (-6 : Int32) dX9_barsOf_39 (by decide) ?_
      refine x_goto 41 46 dX9_barsOf_41 (by decide) ?_
      cases H
      exact x_iret 46 dX9_barsOf_46 .int rfl rfl (Nat.le_of_ble_eq_true rfl) (Nat.le_of_ble_eq_true rfl) ⟨rfl, rfl⟩

def f_X9_barsOf_c23 (v3 : Int32) (s0 : Int32) (M : XM) : Option (Int32 × XM) :=
  f_X9_barsOf_26 v3 s0 M
set_option maxRecDepth 20000 in
set_option maxHeartbeats 4000000 in
theorem t_X9_barsOf_c23 (l : Launch) {v3 : Int32} {s0 : Int32} {M : XM} {q : Int32 × XM} (H : f_X9_barsOf_c23 v3 s0 M = some q) : AW l m_X9_barsOf 4 0 0 (x_Ri q) 0 0 26 [none, none, none, some (.int v3), none] [(.int s0)] M := by
  unfold f_X9_barsOf_c23 at H
  exact t_X9_barsOf_26 l H

def f_X9_barsOf_20 (v0 : Nat) (v2 : Int32) (v3 : Int32) (M : XM) : Option (Int32 × XM) :=
  if x_tag M v0 = 9 + 10 then (x_bd (f_X9_bars v0 v2 v3 M) (f_X9_barsOf_c23 v3)) else none
set_option maxRecDepth 20000 in
set_option maxHeartbeats 4000000 in
theorem t_X9_barsOf_20 (l : Launch) {v0 : Nat} {v2 : Int32} {v3 : Int32} {M : XM} {q : Int32 × XM} (H : f_X9_barsOf_20 v0 v2 v3 M = some q) : AW l m_X9_barsOf 4 0 0 (x_Ri q) 0 0 20 [some (.ref v0), none, some (.int v2), some (.int v3), none] [] M := by
  unfold f_X9_barsOf_20 at H
  refine x_aload_n 20 0 dX9_barsOf_20 rfl rfl ?_
  refine x_iload_n 21 2 dX9_barsOf_21 rfl rfl ?_
  refine x_iload_n 22 3 dX9_barsOf_22 rfl rfl ?_
  obtain ⟨h6, H⟩ := x_ckp H
  obtain ⟨r8, M7, e9, H⟩ := x_bd_of H
  refine x_callV 23 206 9 [(.int v2), (.int v3)] [] dX9_barsOf_23 (ct_X9_bars l e9) lk_1290 lk_1292 lk_54 (by decide) h6 lk_94 lk_1293 ⟨cn_X9_bars, (by decide), by decide⟩ rfl (Nat.le_of_ble_eq_true rfl) (Nat.le_of_ble_eq_true rfl) (Nat.le_of_ble_eq_true rfl) (x_ri ?_)
  exact x_wk (le_n (le_s (le_n (le_s (le_s le_0))))) (t_X9_barsOf_c23 l H)

def f_X9_barsOf_c10 (v0 : Nat) (v2 : Int32) (v3 : Int32) (s0 : Int32) (M : XM) : Option (Int32 × XM) :=
  if s0 = 0 then (f_X9_barsOf_26 v3 (-1 : Int32) M) else (f_X9_barsOf_20 v0 v2 v3 M)
set_option maxRecDepth 20000 in
set_option maxHeartbeats 4000000 in
theorem t_X9_barsOf_c10 (l : Launch) {v0 : Nat} {v2 : Int32} {v3 : Int32} {s0 : Int32} {M : XM} {q : Int32 × XM} (H : f_X9_barsOf_c10 v0 v2 v3 s0 M = some q) : AW l m_X9_barsOf 4 0 0 (x_Ri q) 0 0 13 [some (.ref v0), none, some (.int v2), some (.int v3), none] [(.int s0)] M := by
  unfold f_X9_barsOf_c10 at H
  refine x_if_ne 13 20 dX9_barsOf_13 (by decide) (fun c16 => ?_) (fun c16 => ?_)
  · replace H := x_ifn c16 H
    exact t_X9_barsOf_20 l H
  · replace H := x_ifp c16 H
    refine x_iconst 16 (-1 : Int32) dX9_barsOf_16 (by decide) ?_
    refine x_goto 17 26 dX9_barsOf_17 (by decide) ?_
    exact x_wk (le_n (le_s (le_n (le_s (le_s le_0))))) (t_X9_barsOf_26 l H)

def f_X9_barsOf_c2 (v0 : Nat) (v1 : Int32) (v2 : Int32) (v3 : Int32) (s0 : Int32) (M : XM) : Option (Int32 × XM) :=
  if s0 = 0 then (f_X9_barsOf_20 v0 v2 v3 M) else (if x_tag M v0 = 9 + 10 then (x_bd (f_X9_isCounter v0 v1 M) (f_X9_barsOf_c10 v0 v2 v3)) else none)
set_option maxRecDepth 20000 in
set_option maxHeartbeats 4000000 in
theorem t_X9_barsOf_c2 (l : Launch) {v0 : Nat} {v1 : Int32} {v2 : Int32} {v3 : Int32} {s0 : Int32} {M : XM} {q : Int32 × XM} (H : f_X9_barsOf_c2 v0 v1 v2 v3 s0 M = some q) : AW l m_X9_barsOf 4 0 0 (x_Ri q) 0 0 5 [some (.ref v0), some (.int v1), some (.int v2), some (.int v3), none] [(.int s0)] M := by
  unfold f_X9_barsOf_c2 at H
  refine x_if_eq 5 20 dX9_barsOf_5 (by decide) (fun c5 => ?_) (fun c5 => ?_)
  · replace H := x_ifp c5 H
    exact x_wk (le_s (le_n (le_s (le_s (le_s le_0))))) (t_X9_barsOf_20 l H)
  · replace H := x_ifn c5 H
    refine x_aload_n 8 0 dX9_barsOf_8 rfl rfl ?_
    refine x_iload_n 9 1 dX9_barsOf_9 rfl rfl ?_
    obtain ⟨h12, H⟩ := x_ckp H
    obtain ⟨r14, M13, e15, H⟩ := x_bd_of H
    refine x_callV 10 104 9 [(.int v1)] [] dX9_barsOf_10 (ct_X9_isCounter l e15) lk_1185 lk_1187 lk_38 (by decide) h12 lk_94 lk_1188 ⟨cn_X9_isCounter, (by decide), by decide⟩ rfl (Nat.le_of_ble_eq_true rfl) (Nat.le_of_ble_eq_true rfl) (Nat.le_of_ble_eq_true rfl) (x_ri ?_)
    exact x_wk (le_s (le_n (le_s (le_s (le_s le_0))))) (t_X9_barsOf_c10 l H)

def f_X9_barsOf (v0 : Nat) (v1 : Int32) (v2 : Int32) (v3 : Int32) (M : XM) : Option (Int32 × XM) :=
  if x_tag M v0 = 9 + 10 then (x_bd (f_X9_isShelf v0 v2 M) (f_X9_barsOf_c2 v0 v1 v2 v3)) else none
set_option maxRecDepth 20000 in
set_option maxHeartbeats 4000000 in
theorem t_X9_barsOf (l : Launch) {v0 : Nat} {v1 : Int32} {v2 : Int32} {v3 : Int32} {M : XM} {q : Int32 × XM} (H : f_X9_barsOf v0 v1 v2 v3 M = some q) : AW l m_X9_barsOf 4 0 0 (x_Ri q) 0 0 0 [some (.ref v0), some (.int v1), some (.int v2), some (.int v3), none] [] M := by
  unfold f_X9_barsOf at H
  refine x_aload_n 0 0 dX9_barsOf_0 rfl rfl ?_
  refine x_iload_n 1 2 dX9_barsOf_1 rfl rfl ?_
  obtain ⟨h1, H⟩ := x_ckp H
  obtain ⟨r3, M2, e4, H⟩ := x_bd_of H
  refine x_callV 2 96 9 [(.int v2)] [] dX9_barsOf_2 (ct_X9_isShelf l e4) lk_1161 lk_1163 lk_36 (by decide) h1 lk_94 lk_1164 ⟨cn_X9_isShelf, (by decide), by decide⟩ rfl (Nat.le_of_ble_eq_true rfl) (Nat.le_of_ble_eq_true rfl) (Nat.le_of_ble_eq_true rfl) (x_ri ?_)
  exact t_X9_barsOf_c2 l H

theorem ct_X9_barsOf (l : Launch) {v0 : Nat} {v1 : Int32} {v2 : Int32} {v3 : Int32} {M : XM} {q : Int32 × XM} (H : f_X9_barsOf v0 v1 v2 v3 M = some q) : Ct l m_X9_barsOf 4 0 0 [(.ref v0), (.int v1), (.int v2), (.int v3)] M (x_Ri q) := x_met l m_X9_barsOf 4 0 0 [(.ref v0), (.int v1), (.int v2), (.int v3)] M (x_Ri q) _ rfl rfl (Nat.le_of_ble_eq_true rfl) (t_X9_barsOf l H)
theorem lk_1391 : Cond.code yX9_barsOf cX9_barsOf 5 (some .int) ∈ x_TB := x_tb (k := 1391) (by decide +kernel) rfl
theorem lk_1388 : Cond.methodLink RX9 248 yX9_barsOf ∈ x_TB := x_tb (k := 1388) (by decide +kernel) rfl
theorem lk_69 : Cond.selects RX9 yX9_barsOf yX9_barsOf ∈ x_TB := x_tb (k := 69) (by decide +kernel) rfl
theorem lk_1390 : Cond.instanceMethod yX9_barsOf ∈ x_TB := x_tb (k := 1390) (by decide +kernel) rfl
theorem lk_1395 : Cond.code yX9_wrongIn cX9_wrongIn 8 (some .int) ∈ x_TB := x_tb (k := 1395) (by decide +kernel) rfl
theorem lk_1392 : Cond.methodLink RX9 251 yX9_wrongIn ∈ x_TB := x_tb (k := 1392) (by decide +kernel) rfl
theorem lk_70 : Cond.selects RX9 yX9_wrongIn yX9_wrongIn ∈ x_TB := x_tb (k := 70) (by decide +kernel) rfl
theorem lk_1394 : Cond.instanceMethod yX9_wrongIn ∈ x_TB := x_tb (k := 1394) (by decide +kernel) rfl
abbrev m_X9_judge : XU := (yX9_judge, cX9_judge, 5, (some .int))
theorem cn_X9_judge : m_X9_judge.1.cls ≠ "java/lang/invoke/MethodHandle" ∧ m_X9_judge.1.cls ≠ "java/lang/invoke/VarHandle" ∧ (parseMethodDescriptor m_X9_judge.1.desc).map (fun q => q.parameters.length) = some 3 := by decide +kernel
def f_X9_judge_c4 (v0 : Nat) (v1 : Int32) (v2 : Int32) (v3 : Int32) (s0 : Int32) (M : XM) : Option (Int32 × XM) :=
  if s0 = 0 then (if x_tag M v0 = 9 + 10 then (x_bd (f_X9_wrongIn v0 v1 v2 v3 M) (fun r8 M7 => some (r8, M7))) else none) else (if x_tag M v0 = 9 + 10 then (x_bd (f_X9_noTen v0 s0 M) (fun r12 M11 => some (r12, M11))) else none)
set_option maxRecDepth 20000 in
set_option maxHeartbeats 4000000 in
theorem t_X9_judge_c4 (l : Launch) {v0 : Nat} {v1 : Int32} {v2 : Int32} {v3 : Int32} {s0 : Int32} {M : XM} {q : Int32 × XM} (H : f_X9_judge_c4 v0 v1 v2 v3 s0 M = some q) : AW l m_X9_judge 5 0 0 (x_Ri q) 0 0 7 [some (.ref v0), some (.int v1), some (.int v2), some (.int v3), none] [(.int s0)] M := by
  unfold f_X9_judge_c4 at H
  refine x_istore 7 4 [some (.ref v0), some (.int v1), some (.int v2), some (.int v3), some (.int s0)] dX9_judge_7 rfl (Nat.le_of_ble_eq_true rfl) rfl ?_
  refine x_iload 9 4 dX9_judge_9 rfl ?_
  refine x_if_eq 11 23 dX9_judge_11 (by decide) (fun c5 => ?_) (fun c5 => ?_)
  · replace H := x_ifp c5 H
    refine x_aload_n 23 0 dX9_judge_23 rfl rfl ?_
    refine x_iload_n 24 1 dX9_judge_24 rfl rfl ?_
    refine x_iload_n 25 2 dX9_judge_25 rfl rfl ?_
    refine x_iload_n 26 3 dX9_judge_26 rfl rfl ?_
    obtain ⟨h6, H⟩ := x_ckp H
    obtain ⟨r8, M7, e9, H⟩ := x_bd_of H
    refine x_callV 27 251 9 [(.int v1), (.int v2), (.int v3)] [] dX9_judge_27 (ct_X9_wrongIn l e9) lk_1392 lk_1394 lk_70 (by decide) h6 lk_94 lk_1395 ⟨cn_X9_wrongIn, (by decide), by decide⟩ rfl (Nat.le_of_ble_eq_true rfl) (Nat.le_of_ble_eq_true rfl) (Nat.le_of_ble_eq_true rfl) (x_ri ?_)
    cases H
    exact x_iret 30 dX9_judge_30 .int rfl rfl (Nat.le_of_ble_eq_true rfl) (Nat.le_of_ble_eq_true rfl) ⟨rfl, rfl⟩
  · replace H := x_ifn c5 H
    refine x_aload_n 14 0 dX9_judge_14 rfl rfl ?_
    refine x_iload 15 4 dX9_judge_15 rfl ?_
    obtain ⟨h10, H⟩ := x_ckp H
    obtain ⟨r12, M11, e13, H⟩ := x_bd_of H
    refine x_callV 17 212 9 [(.int s0)] [] dX9_judge_17 (ct_X9_noTen l e13) lk_1314 lk_1316 lk_59 (by decide) h10 lk_94 lk_1317 ⟨cn_X9_noTen, (by decide), by decide⟩ rfl (Nat.le_of_ble_eq_true rfl) (Nat.le_of_ble_eq_true rfl) (Nat.le_of_ble_eq_true rfl) (x_ri ?_)
    refine x_goto 20 30 dX9_judge_20 (by decide) ?_
    cases H
    exact x_iret 30 dX9_judge_30 .int rfl rfl (Nat.le_of_ble_eq_true rfl) (Nat.le_of_ble_eq_true rfl) ⟨rfl, rfl⟩

def f_X9_judge (v0 : Nat) (v1 : Int32) (v2 : Int32) (v3 : Int32) (M : XM) : Option (Int32 × XM) :=
  if x_tag M v0 = 9 + 10 then (x_bd (f_X9_barsOf v0 v1 v2 v3 M) (f_X9_judge_c4 v0 v1 v2 v3)) else none
set_option maxRecDepth 20000 in
set_option maxHeartbeats 4000000 in
theorem t_X9_judge (l : Launch) {v0 : Nat} {v1 : Int32} {v2 : Int32} {v3 : Int32} {M : XM} {q : Int32 × XM} (H : f_X9_judge v0 v1 v2 v3 M = some q) : AW l m_X9_judge 5 0 0 (x_Ri q) 0 0 0 [some (.ref v0), some (.int v1), some (.int v2), some (.int v3), none] [] M := by
  unfold f_X9_judge at H
  refine x_aload_n 0 0 dX9_judge_0 rfl rfl ?_
  refine x_iload_n 1 1 dX9_judge_1 rfl rfl ?_
  refine x_iload_n 2 2 dX9_judge_2 rfl rfl ?_
  refine x_iload_n 3 3 dX9_judge_3 rfl rfl ?_
  obtain ⟨h1, H⟩ := x_ckp H
  obtain ⟨r3, M2, e4, H⟩ := x_bd_of H
  refine x_callV 4 248 9 [(.int v1), (.int v2), (.int v3)] [] dX9_judge_4 (ct_X9_barsOf l e4) lk_1388 lk_1390 lk_69 (by decide) h1 lk_94 lk_1391 ⟨cn_X9_barsOf, (by decide), by decide⟩ rfl (Nat.le_of_ble_eq_true rfl) (Nat.le_of_ble_eq_true rfl) (Nat.le_of_ble_eq_true rfl) (x_ri ?_)
  exact t_X9_judge_c4 l H

theorem ct_X9_judge (l : Launch) {v0 : Nat} {v1 : Int32} {v2 : Int32} {v3 : Int32} {M : XM} {q : Int32 × XM} (H : f_X9_judge v0 v1 v2 v3 M = some q) : Ct l m_X9_judge 5 0 0 [(.ref v0), (.int v1), (.int v2), (.int v3)] M (x_Ri q) := x_met l m_X9_judge 5 0 0 [(.ref v0), (.int v1), (.int v2), (.int v3)] M (x_Ri q) _ rfl rfl (Nat.le_of_ble_eq_true rfl) (t_X9_judge l H)
abbrev m_X9_breaks : XU := (yX9_breaks, cX9_breaks, 5, (some .int))
theorem cn_X9_breaks : m_X9_breaks.1.cls ≠ "java/lang/invoke/MethodHandle" ∧ m_X9_breaks.1.cls ≠ "java/lang/invoke/VarHandle" ∧ (parseMethodDescriptor m_X9_breaks.1.desc).map (fun q => q.parameters.length) = some 3 := by decide +kernel
def f_X9_breaks_29 (v0 : Nat) (v4 : Int32) (M : XM) : Option (Int32 × XM) :=
  if v4 = 0 then (if x_tag M v0 = 9 + 10 then (some ((x_i M v0 37), M)) else none) else (if x_tag M v0 = 9 + 10 then (x_bd (f_X9_no v0 v4 M) (fun r15 M14 => some (r15, M14))) else none)
set_option maxRecDepth 20000 in
set_option maxHeartbeats 4000000 in
theorem t_X9_breaks_29 (l : Launch) {v0 : Nat} {v4 : Int32} {M : XM} {q : Int32 × XM} (H : f_X9_breaks_29 v0 v4 M = some q) : AW l m_X9_breaks 5 0 0 (x_Ri q) 0 0 29 [some (.ref v0), none, none, none, some (.int v4)] [] M := by
  unfold f_X9_breaks_29 at H
  refine x_iload 29 4 dX9_breaks_29 rfl ?_
  refine x_if_eq 31 43 dX9_breaks_31 (by decide) (fun c11 => ?_) (fun c11 => ?_)
  · replace H := x_ifp c11 H
    refine x_aload_n 43 0 dX9_breaks_43 rfl rfl ?_
    obtain ⟨h12, H⟩ := x_ckp H
    refine x_getf 44 245 9 37 (.int (x_i M v0 37)) dX9_breaks_44 lk_1067 (by decide) (by decide) rfl (fun _ => rfl) h12 ?_
    cases H
    exact x_iret 47 dX9_breaks_47 .int rfl rfl (Nat.le_of_ble_eq_true rfl) (Nat.le_of_ble_eq_true rfl) ⟨rfl, rfl⟩
  · replace H := x_ifn c11 H
    refine x_aload_n 34 0 dX9_breaks_34 rfl rfl ?_
    refine x_iload 35 4 dX9_breaks_35 rfl ?_
    obtain ⟨h13, H⟩ := x_ckp H
    obtain ⟨r15, M14, e16, H⟩ := x_bd_of H
    refine x_callV 37 100 9 [(.int v4)] [] dX9_breaks_37 (ct_X9_no l e16) lk_1165 lk_1167 lk_37 (by decide) h13 lk_94 lk_1168 ⟨cn_X9_no, (by decide), by decide⟩ rfl (Nat.le_of_ble_eq_true rfl) (Nat.le_of_ble_eq_true rfl) (Nat.le_of_ble_eq_true rfl) (x_ri ?_)
    refine x_goto 40 47 dX9_breaks_40 (by decide) ?_
    cases H
    exact x_iret 47 dX9_breaks_47 .int rfl rfl (Nat.le_of_ble_eq_true rfl) (Nat.le_of_ble_eq_true rfl) ⟨rfl, rfl⟩

def f_X9_breaks_c18 (v0 : Nat) (v4 : Int32) (s0 : Int32) (M : XM) : Option (Int32 × XM) :=
  if s0 = (-1 : Int32) then (f_X9_breaks_29 v0 v4 M) else (f_X9_breaks_29 v0 (-6 : Int32) M)
set_option maxRecDepth 20000 in
set_option maxHeartbeats 4000000 in
theorem t_X9_breaks_c18 (l : Launch) {v0 : Nat} {v4 : Int32} {s0 : Int32} {M : XM} {q : Int32 × XM} (H : f_X9_breaks_c18 v0 v4 s0 M = some q) : AW l m_X9_breaks 5 0 0 (x_Ri q) 0 0 21 [some (.ref v0), none, none, none, some (.int v4)] [(.int s0)] M := by
  unfold f_X9_breaks_c18 at H
  refine x_iconst 21 (-1 : Int32) dX9_breaks_21 (by decide) ?_
  refine x_icmp_eq 22 29 dX9_breaks_22 (by decide) (fun c10 => ?_) (fun c10 => ?_)
  · replace H := x_ifp c10 H
    exact t_X9_breaks_29 l H
  · replace H := x_ifn c10 H
    refine x_bipush 25 (-6 : Int32) dX9_breaks_25 (by decide) ?_
    refine x_istore 27 4 [some (.ref v0), none, none, none, some (.int (-6 : Int32))] dX9_breaks_27 rfl (Nat.le_of_ble_eq_true rfl) rfl ?_
    exact t_X9_breaks_29 l H

def f_X9_breaks_c4 (v0 : Nat) (v1 : Int32) (v2 : Int32) (v3 : Int32) (s0 : Int32) (M : XM) : Option (Int32 × XM) :=
  if s0 = 0 then (if x_tag M v0 = 9 + 10 then (x_bd (f_X9_wrongIn v0 v1 v2 v3 M) (f_X9_breaks_c18 v0 s0)) else none) else (f_X9_breaks_29 v0 s0 M)
set_option maxRecDepth 20000 in
set_option maxHeartbeats 4000000 in
theorem t_X9_breaks_c4 (l : Launch) {v0 : Nat} {v1 : Int32} {v2 : Int32} {v3 : Int32} {s0 : Int32} {M : XM} {q : Int32 × XM} (H : f_X9_breaks_c4 v0 v1 v2 v3 s0 M = some q) : AW l m_X9_breaks 5 0 0 (x_Ri q) 0 0 7 [some (.ref v0), some (.int v1), some (.int v2), some (.int v3), none] [(.int s0)] M := by
  unfold f_X9_breaks_c4 at H
  refine x_istore 7 4 [some (.ref v0), some (.int v1), some (.int v2), some (.int v3), some (.int s0)] dX9_breaks_7 rfl (Nat.le_of_ble_eq_true rfl) rfl ?_
  refine x_iload 9 4 dX9_breaks_9 rfl ?_
  refine x_if_ne 11 29 dX9_breaks_11 (by decide) (fun c5 => ?_) (fun c5 => ?_)
  · replace H := x_ifn c5 H
    exact x_wk (le_s (le_n (le_n (le_n (le_s le_0))))) (t_X9_breaks_29 l H)
  · replace H := x_ifp c5 H
    refine x_aload_n 14 0 dX9_breaks_14 rfl rfl ?_
    refine x_iload_n 15 1 dX9_breaks_15 rfl rfl ?_
    refine x_iload_n 16 2 dX9_breaks_16 rfl rfl ?_
    refine x_iload_n 17 3 dX9_breaks_17 rfl rfl ?_
    obtain ⟨h6, H⟩ := x_ckp H
    obtain ⟨r8, M7, e9, H⟩ := x_bd_of H
    refine x_callV 18 251 9 [(.int v1), (.int v2), (.int v3)] [] dX9_breaks_18 (ct_X9_wrongIn l e9) lk_1392 lk_1394 lk_70 (by decide) h6 lk_94 lk_1395 ⟨cn_X9_wrongIn, (by decide), by decide⟩ rfl (Nat.le_of_ble_eq_true rfl) (Nat.le_of_ble_eq_true rfl) (Nat.le_of_ble_eq_true rfl) (x_ri ?_)
    exact x_wk (le_s (le_n (le_n (le_n (le_s le_0))))) (t_X9_breaks_c18 l H)

def f_X9_breaks (v0 : Nat) (v1 : Int32) (v2 : Int32) (v3 : Int32) (M : XM) : Option (Int32 × XM) :=
  if x_tag M v0 = 9 + 10 then (x_bd (f_X9_barsOf v0 v1 v2 v3 M) (f_X9_breaks_c4 v0 v1 v2 v3)) else none
set_option maxRecDepth 20000 in
set_option maxHeartbeats 4000000 in
theorem t_X9_breaks (l : Launch) {v0 : Nat} {v1 : Int32} {v2 : Int32} {v3 : Int32} {M : XM} {q : Int32 × XM} (H : f_X9_breaks v0 v1 v2 v3 M = some q) : AW l m_X9_breaks 5 0 0 (x_Ri q) 0 0 0 [some (.ref v0), some (.int v1), some (.int v2), some (.int v3), none] [] M := by
  unfold f_X9_breaks at H
  refine x_aload_n 0 0 dX9_breaks_0 rfl rfl ?_
  refine x_iload_n 1 1 dX9_breaks_1 rfl rfl ?_
  refine x_iload_n 2 2 dX9_breaks_2 rfl rfl ?_
  refine x_iload_n 3 3 dX9_breaks_3 rfl rfl ?_
  obtain ⟨h1, H⟩ := x_ckp H
  obtain ⟨r3, M2, e4, H⟩ := x_bd_of H
  refine x_callV 4 248 9 [(.int v1), (.int v2), (.int v3)] [] dX9_breaks_4 (ct_X9_barsOf l e4) lk_1388 lk_1390 lk_69 (by decide) h1 lk_94 lk_1391 ⟨cn_X9_barsOf, (by decide), by decide⟩ rfl (Nat.le_of_ble_eq_true rfl) (Nat.le_of_ble_eq_true rfl) (Nat.le_of_ble_eq_true rfl) (x_ri ?_)
  exact t_X9_breaks_c4 l H

theorem ct_X9_breaks (l : Launch) {v0 : Nat} {v1 : Int32} {v2 : Int32} {v3 : Int32} {M : XM} {q : Int32 × XM} (H : f_X9_breaks v0 v1 v2 v3 M = some q) : Ct l m_X9_breaks 5 0 0 [(.ref v0), (.int v1), (.int v2), (.int v3)] M (x_Ri q) := x_met l m_X9_breaks 5 0 0 [(.ref v0), (.int v1), (.int v2), (.int v3)] M (x_Ri q) _ rfl rfl (Nat.le_of_ble_eq_true rfl) (t_X9_breaks l H)
