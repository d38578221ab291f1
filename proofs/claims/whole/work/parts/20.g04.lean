theorem lk_107 : Cond.methodLink RX8 1 Lib.objectInit ∈ x_TB := x_tb (k := 107) (by decide +kernel) rfl
theorem lk_110 : Cond.classLink RX8 7 RX4 ∈ x_TB := x_tb (k := 110) (by decide +kernel) rfl
theorem lk_111 : Cond.instantiable RX4 10 ∈ x_TB := x_tb (k := 111) (by decide +kernel) rfl
theorem lk_114 : Cond.code yX4_init cX4_init 2 none ∈ x_TB := x_tb (k := 114) (by decide +kernel) rfl
theorem lk_112 : Cond.methodLink RX8 9 yX4_init ∈ x_TB := x_tb (k := 112) (by decide +kernel) rfl
theorem lk_113 : Cond.instanceMethod yX4_init ∈ x_TB := x_tb (k := 113) (by decide +kernel) rfl
theorem lk_357 : Cond.fieldLink RX8 10 RX8 "now" "LWhatDidYouSay$Room;" ∈ x_TB := x_tb (k := 357) (by decide +kernel) rfl
theorem lk_358 : Cond.fieldLink RX8 16 RX8 "kept" "LWhatDidYouSay$Room;" ∈ x_TB := x_tb (k := 358) (by decide +kernel) rfl
theorem lk_360 : Cond.fieldLink RX8 19 RX8 "draft" "LWhatDidYouSay$Room;" ∈ x_TB := x_tb (k := 360) (by decide +kernel) rfl
theorem lk_206 : Cond.classLink RX8 22 RX5 ∈ x_TB := x_tb (k := 206) (by decide +kernel) rfl
theorem lk_207 : Cond.instantiable RX5 5 ∈ x_TB := x_tb (k := 207) (by decide +kernel) rfl
theorem lk_210 : Cond.code yX5_init cX5_init 2 none ∈ x_TB := x_tb (k := 210) (by decide +kernel) rfl
theorem lk_208 : Cond.methodLink RX8 24 yX5_init ∈ x_TB := x_tb (k := 208) (by decide +kernel) rfl
theorem lk_209 : Cond.instanceMethod yX5_init ∈ x_TB := x_tb (k := 209) (by decide +kernel) rfl
theorem lk_361 : Cond.fieldLink RX8 27 RX8 "reader" "LWhatDidYouSay$RoomReader;" ∈ x_TB := x_tb (k := 361) (by decide +kernel) rfl
theorem lk_362 : Cond.fieldLink RX8 31 RX8 "faultPlace" "I" ∈ x_TB := x_tb (k := 362) (by decide +kernel) rfl
theorem lk_229 : Cond.classLink RX8 35 RX6 ∈ x_TB := x_tb (k := 229) (by decide +kernel) rfl
theorem lk_363 : Cond.fieldLink RX8 37 RX8 "shelves" "[LWhatDidYouSay$Shelf;" ∈ x_TB := x_tb (k := 363) (by decide +kernel) rfl
theorem lk_364 : Cond.fieldLink RX8 41 RX8 "refused" "[I" ∈ x_TB := x_tb (k := 364) (by decide +kernel) rfl
theorem lk_231 : Cond.classLink RX8 45 RX7 ∈ x_TB := x_tb (k := 231) (by decide +kernel) rfl
theorem lk_232 : Cond.instantiable RX7 7 ∈ x_TB := x_tb (k := 232) (by decide +kernel) rfl
theorem lk_235 : Cond.code yX7_init cX7_init 1 none ∈ x_TB := x_tb (k := 235) (by decide +kernel) rfl
theorem lk_234 : Cond.instanceMethod yX7_init ∈ x_TB := x_tb (k := 234) (by decide +kernel) rfl
theorem lk_365 : Cond.fieldLink RX8 48 RX8 "walk" "LWhatDidYouSay$Walk;" ∈ x_TB := x_tb (k := 365) (by decide +kernel) rfl
theorem lk_262 : Cond.classLink RX8 52 RX1 ∈ x_TB := x_tb (k := 262) (by decide +kernel) rfl
theorem lk_263 : Cond.instantiable RX1 9 ∈ x_TB := x_tb (k := 263) (by decide +kernel) rfl
theorem lk_266 : Cond.code yX1_init cX1_init 1 none ∈ x_TB := x_tb (k := 266) (by decide +kernel) rfl
theorem lk_265 : Cond.instanceMethod yX1_init ∈ x_TB := x_tb (k := 265) (by decide +kernel) rfl
theorem lk_366 : Cond.fieldLink RX8 55 RX8 "chances" "LWhatDidYouSay$Chances;" ∈ x_TB := x_tb (k := 366) (by decide +kernel) rfl
theorem lk_296 : Cond.classLink RX8 59 RX3 ∈ x_TB := x_tb (k := 296) (by decide +kernel) rfl
theorem lk_297 : Cond.instantiable RX3 2 ∈ x_TB := x_tb (k := 297) (by decide +kernel) rfl
theorem lk_300 : Cond.code yX3_init cX3_init 1 none ∈ x_TB := x_tb (k := 300) (by decide +kernel) rfl
theorem lk_299 : Cond.instanceMethod yX3_init ∈ x_TB := x_tb (k := 299) (by decide +kernel) rfl
theorem lk_367 : Cond.fieldLink RX8 62 RX8 "delays" "LWhatDidYouSay$Delays;" ∈ x_TB := x_tb (k := 367) (by decide +kernel) rfl
theorem lk_309 : Cond.classLink RX8 66 RX2 ∈ x_TB := x_tb (k := 309) (by decide +kernel) rfl
theorem lk_368 : Cond.fieldLink RX8 69 RX8 "listener" "LWhatDidYouSay$Counter;" ∈ x_TB := x_tb (k := 368) (by decide +kernel) rfl
theorem lk_369 : Cond.fieldLink RX8 73 RX8 "ownOffs" "[I" ∈ x_TB := x_tb (k := 369) (by decide +kernel) rfl
theorem lk_370 : Cond.fieldLink RX8 76 RX8 "otherOffs" "[I" ∈ x_TB := x_tb (k := 370) (by decide +kernel) rfl
theorem lk_311 : Cond.classLink RX8 79 RX0 ∈ x_TB := x_tb (k := 311) (by decide +kernel) rfl
theorem lk_312 : Cond.instantiable RX0 5 ∈ x_TB := x_tb (k := 312) (by decide +kernel) rfl
theorem lk_315 : Cond.code yX0_init cX0_init 1 none ∈ x_TB := x_tb (k := 315) (by decide +kernel) rfl
theorem lk_314 : Cond.instanceMethod yX0_init ∈ x_TB := x_tb (k := 314) (by decide +kernel) rfl
theorem lk_371 : Cond.fieldLink RX8 82 RX8 "acts" "LWhatDidYouSay$Acts;" ∈ x_TB := x_tb (k := 371) (by decide +kernel) rfl
theorem lk_334 : Cond.instantiable RX6 4 ∈ x_TB := x_tb (k := 334) (by decide +kernel) rfl
theorem lk_337 : Cond.code yX6_init cX6_init 1 none ∈ x_TB := x_tb (k := 337) (by decide +kernel) rfl
theorem lk_336 : Cond.instanceMethod yX6_init ∈ x_TB := x_tb (k := 336) (by decide +kernel) rfl
abbrev m_X8_init : XU := (yX8_init, cX8_init, 2, none)
theorem cn_X8_init : m_X8_init.1.cls ≠ "java/lang/invoke/MethodHandle" ∧ m_X8_init.1.cls ≠ "java/lang/invoke/VarHandle" ∧ (parseMethodDescriptor m_X8_init.1.desc).map (fun q => q.parameters.length) = some 0 := by decide +kernel
set_option maxRecDepth 20000 in
def f_X8_init (v0 : Nat) (M : XM) : Option XM :=
  if x_tag M v0 = 8 + 10 then (x_al M (4 + 10) 0 (fun a3 M2 => x_bv (f_X4_init a3 M2) (fun M7 => if x_tag M7 v0 = 8 + 10 then (x_lt (x_wr M7 v0 0 a3) (fun M11 => x_al M11 (4 + 10) 0 (fun a15 M14 => x_bv (f_X4_init a15 M14) (fun M19 => if x_tag M19 v0 = 8 + 10 then (x_lt (x_wr M19 v0 1 a15) (fun M23 => x_al M23 (4 + 10) 0 (fun a27 M26 => x_bv (f_X4_init a27 M26) (fun M31 => if x_tag M31 v0 = 8 + 10 then (x_lt (x_wr M31 v0 3 a27) (fun M35 => x_al M35 (5 + 10) 0 (fun a39 M38 => if x_tag M38 v0 = 8 + 10 then (x_bv (f_X5_init a39 (x_r M38 v0 3) M38) (fun M44 => if x_tag M44 v0 = 8 + 10 then (x_lt (x_wr M44 v0 4 a39) (fun M48 => x_lt (x_wi M48 v0 5 (-1 : Int32)) (fun M51 => x_al M51 4 8 (fun a55 M54 => if x_tag M54 v0 = 8 + 10 then (x_lt (x_wr M54 v0 6 a55) (fun M60 => x_al M60 1 8 (fun a65 M64 => if x_tag M64 v0 = 8 + 10 then (x_lt (x_wr M64 v0 7 a65) (fun M70 => x_al M70 (7 + 10) 0 (fun a75 M74 => x_bv (f_X7_init a75 M74) (fun M79 => if x_tag M79 v0 = 8 + 10 then (x_lt (x_wr M79 v0 8 a75) (fun M83 => x_al M83 (1 + 10) 0 (fun a87 M86 => x_bv (f_X1_init a87 M86) (fun M91 => if x_tag M91 v0 = 8 + 10 then (x_lt (x_wr M91 v0 9 a87) (fun M95 => x_al M95 (3 + 10) 0 (fun a99 M98 => x_bv (f_X3_init a99 M98) (fun M103 => if x_tag M103 v0 = 8 + 10 then (x_lt (x_wr M103 v0 10 a99) (fun M107 => x_al M107 (2 + 10) 0 (fun a111 M110 => x_bv (f_X2_init a111 M110) (fun M115 => if x_tag M115 v0 = 8 + 10 then (x_lt (x_wr M115 v0 11 a111) (fun M119 => x_al M119 1 201 (fun a123 M122 => if x_tag M122 v0 = 8 + 10 then (x_lt (x_wr M122 v0 12 a123) (fun M128 => x_al M128 1 201 (fun a133 M132 => if x_tag M132 v0 = 8 + 10 then (x_lt (x_wr M132 v0 13 a133) (fun M138 => x_al M138 (0 + 10) 0 (fun a143 M142 => x_bv (f_X0_init a143 M142) (fun M147 => if x_tag M147 v0 = 8 + 10 then (x_lt (x_wr M147 v0 14 a143) (fun M151 => if x_tag M151 (x_r M151 v0 6) = 4 then (if (Int32.ofNat (x_len M151 (x_r M151 v0 6))) ≤ (0 : Int32) then (some M151) else (x_al M151 (6 + 10) 0 (fun a157 M156 => x_bv (f_X6_init a157 M156) (fun M161 => if x_at M161 (x_r M151 v0 6) 4 (0 : Int32) = true then (if x_tag M161 a157 = 6 + 10 then (x_lt (x_wr M161 (x_r M151 v0 6) (0 : Int32).toNatClampNeg a157) (fun M166 => if x_tag M166 v0 = 8 + 10 then (if x_tag M166 (x_r M166 v0 6) = 4 then (if (Int32.ofNat (x_len M166 (x_r M166 v0 6))) ≤ ((0 : Int32) + (1 : Int32)) then (some M166) else (x_al M166 (6 + 10) 0 (fun a175 M174 => x_bv (f_X6_init a175 M174) (fun M179 => if x_at M179 (x_r M166 v0 6) 4 ((0 : Int32) + (1 : Int32)) = true then (if x_tag M179 a175 = 6 + 10 then (x_lt (x_wr M179 (x_r M166 v0 6) ((0 : Int32) + (1 : Int32)).toNatClampNeg a175) (fun M184 => if x_tag M184 v0 = 8 + 10 then (if x_tag M184 (x_r M184 v0 6) = 4 then (if (Int32.ofNat (x_len M184 (x_r M184 v0 6))) ≤ (((0 : Int32) + (1 : Int32)) + (1 : Int32)) then (some M184) else (x_al M184 (6 + 10) 0 (fun a193 M192 => x_bv (f_X6_init a193 M192) (fun M197 => if x_at M197 (x_r M184 v0 6) 4 (((0 : Int32) + (1 : Int32)) + (1 : Int32)) = true then (if x_tag M197 a193 = 6 + 10 then (x_lt (x_wr M197 (x_r M184 v0 6) (((0 : Int32) + (1 : Int32)) + (1 : Int32)).toNatClampNeg a193) (fun M202 => if x_tag M202 v0 = 8 + 10 then (if x_tag M202 (x_r M202 v0 6) = 4 then (if (Int32.ofNat (x_len M202 (x_r M202 v0 6))) ≤ ((((0 : Int32) + (1 : Int32)) + (1 : Int32)) + (1 : Int32)) then (some M202) else (x_al M202 (6 + 10) 0 (fun a211 M210 => x_bv (f_X6_init a211 M210) (fun M215 => if x_at M215 (x_r M202 v0 6) 4 ((((0 : Int32) + (1 : Int32)) + (1 : Int32)) + (1 : Int32)) = true then (if x_tag M215 a211 = 6 + 10 then (x_lt (x_wr M215 (x_r M202 v0 6) ((((0 : Int32) + (1 : Int32)) + (1 : Int32)) + (1 : Int32)).toNatClampNeg a211) (fun M220 => if x_tag M220 v0 = 8 + 10 then (if x_tag M220 (x_r M220 v0 6) = 4 then (if (Int32.ofNat (x_len M220 (x_r M220 v0 6))) ≤ (((((0 : Int32) + (1 : Int32)) + (1 : Int32)) + (1 : Int32)) + (1 : Int32)) then (some M220) else (x_al M220 (6 + 10) 0 (fun a229 M228 => x_bv (f_X6_init a229 M228) (fun M233 => if x_at M233 (x_r M220 v0 6) 4 (((((0 : Int32) + (1 : Int32)) + (1 : Int32)) + (1 : Int32)) + (1 : Int32)) = true then (if x_tag M233 a229 = 6 + 10 then (x_lt (x_wr M233 (x_r M220 v0 6) (((((0 : Int32) + (1 : Int32)) + (1 : Int32)) + (1 : Int32)) + (1 : Int32)).toNatClampNeg a229) (fun M238 => if x_tag M238 v0 = 8 + 10 then (if x_tag M238 (x_r M238 v0 6) = 4 then (if (Int32.ofNat (x_len M238 (x_r M238 v0 6))) ≤ ((((((0 : Int32) + (1 : Int32)) + (1 : Int32)) + (1 : Int32)) + (1 : Int32)) + (1 : Int32)) then (some M238) else (x_al M238 (6 + 10) 0 (fun a247 M246 => x_bv (f_X6_init a247 M246) (fun M251 => if x_at M251 (x_r M238 v0 6) 4 ((((((0 : Int32) + (1 : Int32)) + (1 : Int32)) + (1 : Int32)) + (1 : Int32)) + (1 : Int32)) = true then (if x_tag M251 a247 = 6 + 10 then (x_lt (x_wr M251 (x_r M238 v0 6) ((((((0 : Int32) + (1 : Int32)) + (1 : Int32)) + (1 : Int32)) + (1 : Int32)) + (1 : Int32)).toNatClampNeg a247) (fun M256 => if x_tag M256 v0 = 8 + 10 then (if x_tag M256 (x_r M256 v0 6) = 4 then (if (Int32.ofNat (x_len M256 (x_r M256 v0 6))) ≤ (((((((0 : Int32) + (1 : Int32)) + (1 : Int32)) + (1 : Int32)) + (1 : Int32)) + (1 : Int32)) + (1 : Int32)) then (some M256) else (x_al M256 (6 + 10) 0 (fun a265 M264 => x_bv (f_X6_init a265 M264) (fun M269 => if x_at M269 (x_r M256 v0 6) 4 (((((((0 : Int32) + (1 : Int32)) + (1 : Int32)) + (1 : Int32)) + (1 : Int32)) + (1 : Int32)) + (1 : Int32)) = true then (if x_tag M269 a265 = 6 + 10 then (x_lt (x_wr M269 (x_r M256 v0 6) (((((((0 : Int32) + (1 : Int32)) + (1 : Int32)) + (1 : Int32)) + (1 : Int32)) + (1 : Int32)) + (1 : Int32)).toNatClampNeg a265) (fun M274 => if x_tag M274 v0 = 8 + 10 then (if x_tag M274 (x_r M274 v0 6) = 4 then (if (Int32.ofNat (x_len M274 (x_r M274 v0 6))) ≤ ((((((((0 : Int32) + (1 : Int32)) + (1 : Int32)) + (1 : Int32)) + (1 : Int32)) + (1 : Int32)) + (1 : Int32)) + (1 : Int32)) then (some M274) else (x_al M274 (6 + 10) 0 (fun a283 M282 => x_bv (f_X6_init a283 M282) (fun M287 => if x_at M287 (x_r M274 v0 6) 4 ((((((((0 : Int32) + (1 : Int32)) + (1 : Int32)) + (1 : Int32)) + (1 : Int32)) + (1 : Int32)) + (1 : Int32)) + (1 : Int32)) = true then (if x_tag M287 a283 = 6 + 10 then (x_lt (x_wr M287 (x_r M274 v0 6) ((((((((0 : Int32) + (1 : Int32)) + (1 : Int32)) + (1 : Int32)) + (1 : Int32)) + (1 : Int32)) + (1 : Int32)) + (1 : Int32)).toNatClampNeg a283) (fun M292 => if x_tag M292 v0 = 8 + 10 then (if x_tag M292 (x_r M292 v0 6) = 4 then (if (Int32.ofNat (x_len M292 (x_r M292 v0 6))) ≤ (((((((((0 : Int32) + (1 : Int32)) + (1 : Int32)) + (1 : Int32)) + (1 : Int32)) + (1 : Int32)) + (1 : Int32)) + (1 : Int32)) + (1 : Int32)) then (some M292) else (x_al M292 (6 + 10) 0 (fun a301 M300 => x_bv (f_X6_init a301 M300) (fun M305 => if x_at M305 (x_r M292 v0 6) 4 (((((((((0 : Int32) + (1 : Int32)) + (1 : Int32)) + (1 : Int32)) + (1 : Int32)) + (1 : Int32)) + (1 : Int32)) + (1 : Int32)) + (1 : Int32)) = true then (if x_tag M305 a301 = 6 + 10 then (x_lt (x_wr M305 (x_r M292 v0 6) (((((((((0 : Int32) + (1 : Int32)) + (1 : Int32)) + (1 : Int32)) + (1 : Int32)) + (1 : Int32)) + (1 : Int32)) + (1 : Int32)) + (1 : Int32)).toNatClampNeg a301) (fun M310 => none)) else none) else none)))) else none) else none)) else none) else none)))) else none) else none)) else none) else none)))) else none) else none)) else none) else none)))) else none) else none)) else none) else none)))) else none) else none)) else none) else none)))) else none) else none)) else none) else none)))) else none) else none)) else none) else none)))) else none) else none)) else none) else none)))) else none)) else none)))) else none))) else none))) else none)))) else none)))) else none)))) else none)))) else none))) else none)))) else none)) else none))) else none)))) else none)))) else none))) else none
set_option maxRecDepth 20000 in
set_option maxHeartbeats 4000000 in
theorem t_X8_init (l : Launch) {v0 : Nat} {M : XM} {q : XM} (H : f_X8_init v0 M = some q) : AW l m_X8_init 3 67 8731 (x_Rv q) 0 0 0 [some (.ref v0), none] [] M := by
  unfold f_X8_init at H
  refine x_aload_n 0 0 dX8_init_0 rfl rfl ?_
  obtain ⟨h1, H⟩ := x_ckp H
  refine x_objInit 1 1 dX8_init_1 lk_107 lk_108 lk_109 h1 rfl (Nat.le_of_ble_eq_true rfl) (by decide) ?_
  refine x_aload_n 4 0 dX8_init_4 rfl rfl ?_
  obtain ⟨a3, M2, w4, w5, H⟩ := x_al_of H
  refine x_newc' 5 7 4 dX8_init_5 (by decide) lk_110 lk_111 lk_86 (Nat.le_of_ble_eq_true rfl) (Nat.le_of_ble_eq_true rfl) w4 w5 ?_
  have h6 : x_tag M2 a3 = 4 + 10 := x_al_tag w4 w5
  change AW _ _ _ _ _ _ 1 10 _ _ _ _
  refine x_dup 8 dX8_init_8 rfl ?_
  obtain ⟨M7, e9, H⟩ := x_bv_of H
  refine x_callI 9 9 [] [(.ref a3), (.ref v0)] dX8_init_9 (ct_X4_init l e9) lk_112 rfl rfl lk_113 h6 lk_86 lk_114 ⟨cn_X4_init, (by decide), by decide⟩ rfl (Nat.le_of_ble_eq_true rfl) (Nat.le_of_ble_eq_true rfl) (Nat.le_of_ble_eq_true rfl) (x_rv ?_)
  change AW _ _ _ _ _ _ 10 59 _ _ _ _
  obtain ⟨h10, H⟩ := x_ckp H
  obtain ⟨M11, w12, H⟩ := x_lt_of H
  have h13 : x_tag M11 v0 = 8 + 10 := by rw [w12]; exact h10
  refine x_putR' 12 10 8 0 dX8_init_12 lk_357 (by decide) (by decide) rfl (Or.inl ⟨_, rfl⟩) (Or.inr ⟨rfl, rfl⟩) h10 w12 ?_
  refine x_aload_n 15 0 dX8_init_15 rfl rfl ?_
  obtain ⟨a15, M14, w16, w17, H⟩ := x_al_of H
  refine x_newc' 16 7 4 dX8_init_16 (by decide) lk_110 lk_111 lk_86 (Nat.le_of_ble_eq_true rfl) (Nat.le_of_ble_eq_true rfl) w16 w17 ?_
  have h18 : x_tag M14 a15 = 4 + 10 := x_al_tag w16 w17
  change AW _ _ _ _ _ _ 11 69 _ _ _ _
  refine x_dup 19 dX8_init_19 rfl ?_
  obtain ⟨M19, e21, H⟩ := x_bv_of H
  refine x_callI 20 9 [] [(.ref a15), (.ref v0)] dX8_init_20 (ct_X4_init l e21) lk_112 rfl rfl lk_113 h18 lk_86 lk_114 ⟨cn_X4_init, (by decide), by decide⟩ rfl (Nat.le_of_ble_eq_true rfl) (Nat.le_of_ble_eq_true rfl) (Nat.le_of_ble_eq_true rfl) (x_rv ?_)
  change AW _ _ _ _ _ _ 20 118 _ _ _ _
  obtain ⟨h22, H⟩ := x_ckp H
  obtain ⟨M23, w24, H⟩ := x_lt_of H
  have h25 : x_tag M23 v0 = 8 + 10 := by rw [w24]; exact h22
  refine x_putR' 23 16 8 1 dX8_init_23 lk_358 (by decide) (by decide) rfl (Or.inl ⟨_, rfl⟩) (Or.inr ⟨rfl, rfl⟩) h22 w24 ?_
  refine x_aload_n 26 0 dX8_init_26 rfl rfl ?_
  obtain ⟨a27, M26, w28, w29, H⟩ := x_al_of H
  refine x_newc' 27 7 4 dX8_init_27 (by decide) lk_110 lk_111 lk_86 (Nat.le_of_ble_eq_true rfl) (Nat.le_of_ble_eq_true rfl) w28 w29 ?_
  have h30 : x_tag M26 a27 = 4 + 10 := x_al_tag w28 w29
  change AW _ _ _ _ _ _ 21 128 _ _ _ _
  refine x_dup 30 dX8_init_30 rfl ?_
  obtain ⟨M31, e33, H⟩ := x_bv_of H
  refine x_callI 31 9 [] [(.ref a27), (.ref v0)] dX8_init_31 (ct_X4_init l e33) lk_112 rfl rfl lk_113 h30 lk_86 lk_114 ⟨cn_X4_init, (by decide), by decide⟩ rfl (Nat.le_of_ble_eq_true rfl) (Nat.le_of_ble_eq_true rfl) (Nat.le_of_ble_eq_true rfl) (x_rv ?_)
  change AW _ _ _ _ _ _ 30 177 _ _ _ _
  obtain ⟨h34, H⟩ := x_ckp H
  obtain ⟨M35, w36, H⟩ := x_lt_of H
  have h37 : x_tag M35 v0 = 8 + 10 := by rw [w36]; exact h34
  refine x_putR' 34 19 8 3 dX8_init_34 lk_360 (by decide) (by decide) rfl (Or.inl ⟨_, rfl⟩) (Or.inr ⟨rfl, rfl⟩) h34 w36 ?_
  refine x_aload_n 37 0 dX8_init_37 rfl rfl ?_
  obtain ⟨a39, M38, w40, w41, H⟩ := x_al_of H
  refine x_newc' 38 22 5 dX8_init_38 (by decide) lk_206 lk_207 lk_88 (Nat.le_of_ble_eq_true rfl) (Nat.le_of_ble_eq_true rfl) w40 w41 ?_
  have h42 : x_tag M38 a39 = 5 + 10 := x_al_tag w40 w41
  change AW _ _ _ _ _ _ 31 182 _ _ _ _
  refine x_dup 41 dX8_init_41 rfl ?_
  refine x_aload_n 42 0 dX8_init_42 rfl rfl ?_
  obtain ⟨h43, H⟩ := x_ckp H
  refine x_getf 43 19 8 3 (.ref (x_r M38 v0 3)) dX8_init_43 lk_360 (by decide) (by decide) rfl (fun _ => rfl) h43 ?_
  obtain ⟨M44, e46, H⟩ := x_bv_of H
  refine x_callI 46 24 [(.ref (x_r M38 v0 3))] [(.ref a39), (.ref v0)] dX8_init_46 (ct_X5_init l e46) lk_208 rfl rfl lk_209 h42 lk_88 lk_210 ⟨cn_X5_init, (by decide), by decide⟩ rfl (Nat.le_of_ble_eq_true rfl) (Nat.le_of_ble_eq_true rfl) (Nat.le_of_ble_eq_true rfl) (x_rv ?_)
  change AW _ _ _ _ _ _ 32 342 _ _ _ _
  obtain ⟨h47, H⟩ := x_ckp H
  obtain ⟨M48, w49, H⟩ := x_lt_of H
  have h50 : x_tag M48 v0 = 8 + 10 := by rw [w49]; exact h47
  refine x_putR' 49 27 8 4 dX8_init_49 lk_361 (by decide) (by decide) rfl (Or.inl ⟨_, rfl⟩) (Or.inr ⟨rfl, rfl⟩) h47 w49 ?_
  refine x_aload_n 52 0 dX8_init_52 rfl rfl ?_
  refine x_iconst 53 (-1 : Int32) dX8_init_53 (by decide) ?_
  obtain ⟨M51, w52, H⟩ := x_lt_of H
  have h53 : x_tag M51 v0 = 8 + 10 := by rw [w52]; exact h50
  refine x_putI' 54 31 8 5 dX8_init_54 lk_362 (by decide) (by decide) rfl (Or.inl rfl) (Or.inl rfl) h50 w52 ?_
  refine x_aload_n 57 0 dX8_init_57 rfl rfl ?_
  refine x_bipush 58 (8 : Int32) dX8_init_58 (by decide) ?_
  obtain ⟨a55, M54, w56, w57, H⟩ := x_al_of H
  refine x_anew4' 60 35 8 dX8_init_60 lk_229 (by decide) (by decide) (by decide) (Nat.le_of_ble_eq_true rfl) (Nat.le_of_ble_eq_true rfl) w56 w57 ?_
  have h58 : x_tag M54 a55 = 4 := x_al_tag w56 w57
  change AW _ _ _ _ _ _ 33 350 _ _ _ _
  obtain ⟨h59, H⟩ := x_ckp H
  obtain ⟨M60, w61, H⟩ := x_lt_of H
  have h62 : x_tag M60 a55 = 4 := by rw [w61]; exact h58
  have h63 : x_tag M60 v0 = 8 + 10 := by rw [w61]; exact h59
  refine x_putR' 63 37 8 6 dX8_init_63 lk_363 (by decide) (by decide) rfl (Or.inr ⟨_, rfl⟩) (Or.inr ⟨rfl, rfl⟩) h59 w61 ?_
  refine x_aload_n 66 0 dX8_init_66 rfl rfl ?_
  refine x_bipush 67 (8 : Int32) dX8_init_67 (by decide) ?_
  obtain ⟨a65, M64, w66, w67, H⟩ := x_al_of H
  refine x_newI' 69 8 dX8_init_69 lk_153 (by decide) (by decide) (by decide) (Nat.le_of_ble_eq_true rfl) (Nat.le_of_ble_eq_true rfl) w66 w67 ?_
  have h68 : x_tag M64 a65 = 1 := x_al_tag w66 w67
  change AW _ _ _ _ _ _ 34 358 _ _ _ _
  obtain ⟨h69, H⟩ := x_ckp H
  obtain ⟨M70, w71, H⟩ := x_lt_of H
  have h72 : x_tag M70 a65 = 1 := by rw [w71]; exact h68
  have h73 : x_tag M70 v0 = 8 + 10 := by rw [w71]; exact h69
  refine x_putR' 71 41 8 7 dX8_init_71 lk_364 (by decide) (by decide) rfl (Or.inr ⟨_, rfl⟩) (Or.inr ⟨rfl, rfl⟩) h69 w71 ?_
  refine x_aload_n 74 0 dX8_init_74 rfl rfl ?_
  obtain ⟨a75, M74, w76, w77, H⟩ := x_al_of H
  refine x_newc' 75 45 7 dX8_init_75 (by decide) lk_231 lk_232 lk_89 (Nat.le_of_ble_eq_true rfl) (Nat.le_of_ble_eq_true rfl) w76 w77 ?_
  have h78 : x_tag M74 a75 = 7 + 10 := x_al_tag w76 w77
  change AW _ _ _ _ _ _ 35 365 _ _ _ _
  refine x_dup 78 dX8_init_78 rfl ?_
  obtain ⟨M79, e81, H⟩ := x_bv_of H
  refine x_callIN 79 47 [] [(.ref a75), (.ref v0)] dX8_init_79 (ct_X7_init l e81) (List.mem_of_getElem? (i := 1) rfl) rfl rfl lk_234 h78 lk_89 lk_235 ⟨cn_X7_init, (by decide), by decide⟩ rfl (Nat.le_of_ble_eq_true rfl) (Nat.le_of_ble_eq_true rfl) (Nat.le_of_ble_eq_true rfl) (x_rv ?_)
  change AW _ _ _ _ _ _ 37 410 _ _ _ _
  obtain ⟨h82, H⟩ := x_ckp H
  obtain ⟨M83, w84, H⟩ := x_lt_of H
  have h85 : x_tag M83 v0 = 8 + 10 := by rw [w84]; exact h82
  refine x_putR' 82 48 8 8 dX8_init_82 lk_365 (by decide) (by decide) rfl (Or.inl ⟨_, rfl⟩) (Or.inr ⟨rfl, rfl⟩) h82 w84 ?_
  refine x_aload_n 85 0 dX8_init_85 rfl rfl ?_
  obtain ⟨a87, M86, w88, w89, H⟩ := x_al_of H
  refine x_newc' 86 52 1 dX8_init_86 (by decide) lk_262 lk_263 lk_90 (Nat.le_of_ble_eq_true rfl) (Nat.le_of_ble_eq_true rfl) w88 w89 ?_
  have h90 : x_tag M86 a87 = 1 + 10 := x_al_tag w88 w89
  change AW _ _ _ _ _ _ 38 419 _ _ _ _
  refine x_dup 89 dX8_init_89 rfl ?_
  obtain ⟨M91, e93, H⟩ := x_bv_of H
  refine x_callIN 90 54 [] [(.ref a87), (.ref v0)] dX8_init_90 (ct_X1_init l e93) (List.mem_of_getElem? (i := 3) rfl) rfl rfl lk_265 h90 lk_90 lk_266 ⟨cn_X1_init, (by decide), by decide⟩ rfl (Nat.le_of_ble_eq_true rfl) (Nat.le_of_ble_eq_true rfl) (Nat.le_of_ble_eq_true rfl) (x_rv ?_)
  change AW _ _ _ _ _ _ 41 6419 _ _ _ _
  obtain ⟨h94, H⟩ := x_ckp H
  obtain ⟨M95, w96, H⟩ := x_lt_of H
  have h97 : x_tag M95 v0 = 8 + 10 := by rw [w96]; exact h94
  refine x_putR' 93 55 8 9 dX8_init_93 lk_366 (by decide) (by decide) rfl (Or.inl ⟨_, rfl⟩) (Or.inr ⟨rfl, rfl⟩) h94 w96 ?_
  refine x_aload_n 96 0 dX8_init_96 rfl rfl ?_
  obtain ⟨a99, M98, w100, w101, H⟩ := x_al_of H
  refine x_newc' 97 59 3 dX8_init_97 (by decide) lk_296 lk_297 lk_91 (Nat.le_of_ble_eq_true rfl) (Nat.le_of_ble_eq_true rfl) w100 w101 ?_
  have h102 : x_tag M98 a99 = 3 + 10 := x_al_tag w100 w101
  change AW _ _ _ _ _ _ 42 6421 _ _ _ _
  refine x_dup 100 dX8_init_100 rfl ?_
  obtain ⟨M103, e105, H⟩ := x_bv_of H
  refine x_callIN 101 61 [] [(.ref a99), (.ref v0)] dX8_init_101 (ct_X3_init l e105) (List.mem_of_getElem? (i := 4) rfl) rfl rfl lk_299 h102 lk_91 lk_300 ⟨cn_X3_init, (by decide), by decide⟩ rfl (Nat.le_of_ble_eq_true rfl) (Nat.le_of_ble_eq_true rfl) (Nat.le_of_ble_eq_true rfl) (x_rv ?_)
  change AW _ _ _ _ _ _ 44 6823 _ _ _ _
  obtain ⟨h106, H⟩ := x_ckp H
  obtain ⟨M107, w108, H⟩ := x_lt_of H
  have h109 : x_tag M107 v0 = 8 + 10 := by rw [w108]; exact h106
  refine x_putR' 104 62 8 10 dX8_init_104 lk_367 (by decide) (by decide) rfl (Or.inl ⟨_, rfl⟩) (Or.inr ⟨rfl, rfl⟩) h106 w108 ?_
  refine x_aload_n 107 0 dX8_init_107 rfl rfl ?_
  obtain ⟨a111, M110, w112, w113, H⟩ := x_al_of H
  refine x_newc' 108 66 2 dX8_init_108 (by decide) lk_309 lk_118 lk_87 (Nat.le_of_ble_eq_true rfl) (Nat.le_of_ble_eq_true rfl) w112 w113 ?_
  have h114 : x_tag M110 a111 = 2 + 10 := x_al_tag w112 w113
  change AW _ _ _ _ _ _ 45 6828 _ _ _ _
  refine x_dup 111 dX8_init_111 rfl ?_
  obtain ⟨M115, e117, H⟩ := x_bv_of H
  refine x_callIN 112 68 [] [(.ref a111), (.ref v0)] dX8_init_112 (ct_X2_init l e117) (List.mem_of_getElem? (i := 5) rfl) rfl rfl lk_120 h114 lk_87 lk_121 ⟨cn_X2_init, (by decide), by decide⟩ rfl (Nat.le_of_ble_eq_true rfl) (Nat.le_of_ble_eq_true rfl) (Nat.le_of_ble_eq_true rfl) (x_rv ?_)
  obtain ⟨h118, H⟩ := x_ckp H
  obtain ⟨M119, w120, H⟩ := x_lt_of H
  have h121 : x_tag M119 v0 = 8 + 10 := by rw [w120]; exact h118
  refine x_putR' 115 69 8 11 dX8_init_115 lk_368 (by decide) (by decide) rfl (Or.inl ⟨_, rfl⟩) (Or.inr ⟨rfl, rfl⟩) h118 w120 ?_
  refine x_aload_n 118 0 dX8_init_118 rfl rfl ?_
  refine x_sipush 119 (201 : Int32) dX8_init_119 (by decide) ?_
  obtain ⟨a123, M122, w124, w125, H⟩ := x_al_of H
  refine x_newI' 122 201 dX8_init_122 lk_153 (by decide) (by decide) (by decide) (Nat.le_of_ble_eq_true rfl) (Nat.le_of_ble_eq_true rfl) w124 w125 ?_
  have h126 : x_tag M122 a123 = 1 := x_al_tag w124 w125
  change AW _ _ _ _ _ _ 46 7029 _ _ _ _
  obtain ⟨h127, H⟩ := x_ckp H
  obtain ⟨M128, w129, H⟩ := x_lt_of H
  have h130 : x_tag M128 a123 = 1 := by rw [w129]; exact h126
  have h131 : x_tag M128 v0 = 8 + 10 := by rw [w129]; exact h127
  refine x_putR' 124 73 8 12 dX8_init_124 lk_369 (by decide) (by decide) rfl (Or.inr ⟨_, rfl⟩) (Or.inr ⟨rfl, rfl⟩) h127 w129 ?_
  refine x_aload_n 127 0 dX8_init_127 rfl rfl ?_
  refine x_sipush 128 (201 : Int32) dX8_init_128 (by decide) ?_
  obtain ⟨a133, M132, w134, w135, H⟩ := x_al_of H
  refine x_newI' 131 201 dX8_init_131 lk_153 (by decide) (by decide) (by decide) (Nat.le_of_ble_eq_true rfl) (Nat.le_of_ble_eq_true rfl) w134 w135 ?_
  have h136 : x_tag M132 a133 = 1 := x_al_tag w134 w135
  change AW _ _ _ _ _ _ 47 7230 _ _ _ _
  obtain ⟨h137, H⟩ := x_ckp H
  obtain ⟨M138, w139, H⟩ := x_lt_of H
  have h140 : x_tag M138 a133 = 1 := by rw [w139]; exact h136
  have h141 : x_tag M138 v0 = 8 + 10 := by rw [w139]; exact h137
  refine x_putR' 133 76 8 13 dX8_init_133 lk_370 (by decide) (by decide) rfl (Or.inr ⟨_, rfl⟩) (Or.inr ⟨rfl, rfl⟩) h137 w139 ?_
  refine x_aload_n 136 0 dX8_init_136 rfl rfl ?_
  obtain ⟨a143, M142, w144, w145, H⟩ := x_al_of H
  refine x_newc' 137 79 0 dX8_init_137 (by decide) lk_311 lk_312 lk_92 (Nat.le_of_ble_eq_true rfl) (Nat.le_of_ble_eq_true rfl) w144 w145 ?_
  have h146 : x_tag M142 a143 = 0 + 10 := x_al_tag w144 w145
  change AW _ _ _ _ _ _ 48 7235 _ _ _ _
  refine x_dup 140 dX8_init_140 rfl ?_
  obtain ⟨M147, e149, H⟩ := x_bv_of H
  refine x_callIN 141 81 [] [(.ref a143), (.ref v0)] dX8_init_141 (ct_X0_init l e149) (List.mem_of_getElem? (i := 6) rfl) rfl rfl lk_314 h146 lk_92 lk_315 ⟨cn_X0_init, (by decide), by decide⟩ rfl (Nat.le_of_ble_eq_true rfl) (Nat.le_of_ble_eq_true rfl) (Nat.le_of_ble_eq_true rfl) (x_rv ?_)
  change AW _ _ _ _ _ _ 49 7255 _ _ _ _
  obtain ⟨h150, H⟩ := x_ckp H
  obtain ⟨M151, w152, H⟩ := x_lt_of H
  have h153 : x_tag M151 v0 = 8 + 10 := by rw [w152]; exact h150
  refine x_putR' 144 82 8 14 dX8_init_144 lk_371 (by decide) (by decide) rfl (Or.inl ⟨_, rfl⟩) (Or.inr ⟨rfl, rfl⟩) h150 w152 ?_
  refine x_iconst 147 (0 : Int32) dX8_init_147 (by decide) ?_
  refine x_istore_n 148 1 [some (.ref v0), some (.int (0 : Int32))] dX8_init_148 rfl rfl (Nat.le_of_ble_eq_true rfl) rfl ?_
  refine x_iload_n 149 1 dX8_init_149 rfl rfl ?_
  refine x_aload_n 150 0 dX8_init_150 rfl rfl ?_
  refine x_getf 151 37 8 6 (.ref (x_r M151 v0 6)) dX8_init_151 lk_363 (by decide) (by decide) rfl (fun _ => rfl) h153 ?_
  obtain ⟨h154, H⟩ := x_ckp H
  refine x_alen 154 4 dX8_init_154 h154 (by decide) ?_
  refine x_icmp_ge 155 177 dX8_init_155 (by decide) (fun c155 => ?_) (fun c155 => ?_)
  · replace H := x_ifp c155 H
    cases H
    exact x_vret 177 dX8_init_177 rfl (Nat.le_of_ble_eq_true rfl) (Nat.le_of_ble_eq_true rfl) ⟨rfl, rfl⟩
  · replace H := x_ifn c155 H
    refine x_aload_n 158 0 dX8_init_158 rfl rfl ?_
    refine x_getf 159 37 8 6 (.ref (x_r M151 v0 6)) dX8_init_159 lk_363 (by decide) (by decide) rfl (fun _ => rfl) h153 ?_
    refine x_iload_n 162 1 dX8_init_162 rfl rfl ?_
    obtain ⟨a157, M156, w158, w159, H⟩ := x_al_of H
    refine x_newc' 163 35 6 dX8_init_163 (by decide) lk_229 lk_334 lk_93 (Nat.le_of_ble_eq_true rfl) (Nat.le_of_ble_eq_true rfl) w158 w159 ?_
    have h160 : x_tag M156 a157 = 6 + 10 := x_al_tag w158 w159
    change AW _ _ _ _ _ _ 50 7259 _ _ _ _
    refine x_dup 166 dX8_init_166 rfl ?_
    obtain ⟨M161, e163, H⟩ := x_bv_of H
    refine x_callIN 167 86 [] [(.ref a157), (.int (0 : Int32)), (.ref (x_r M151 v0 6))] dX8_init_167 (ct_X6_init l e163) (List.mem_of_getElem? (i := 7) rfl) rfl rfl lk_336 h160 lk_93 lk_337 ⟨cn_X6_init, (by decide), by decide⟩ rfl (Nat.le_of_ble_eq_true rfl) (Nat.le_of_ble_eq_true rfl) (Nat.le_of_ble_eq_true rfl) (x_rv ?_)
    change AW _ _ _ _ _ _ 51 7419 _ _ _ _
    obtain ⟨h164, H⟩ := x_ckp H
    obtain ⟨h165, H⟩ := x_ckp H
    obtain ⟨M166, w167, H⟩ := x_lt_of H
    have h168 : x_at M166 (x_r M151 v0 6) 4 (0 : Int32) = true := by rw [w167]; exact h164
    have h169 : x_tag M166 (x_r M151 v0 6) = 4 := by rw [w167]; exact (x_at_1 h164)
    have h170 : x_tag M166 a157 = 6 + 10 := by rw [w167]; exact h165
    refine x_aast4' 170 dX8_init_170 h164 h165 w167 ?_
    refine x_iinc 171 1 ((0 : Int32) + (1 : Int32)) [some (.ref v0), some (.int ((0 : Int32) + (1 : Int32)))] dX8_init_171 rfl (congrArg (fun z : Int32 => (0 : Int32) + z) (show Int32.ofInt (1) = (1 : Int32) by decide)) rfl (Nat.le_of_ble_eq_true rfl) rfl ?_
    refine x_goto 174 149 dX8_init_174 (by decide) ?_
    refine x_iload_n 149 1 dX8_init_149 rfl rfl ?_
    refine x_aload_n 150 0 dX8_init_150 rfl rfl ?_
    obtain ⟨h171, H⟩ := x_ckp H
    refine x_getf 151 37 8 6 (.ref (x_r M166 v0 6)) dX8_init_151 lk_363 (by decide) (by decide) rfl (fun _ => rfl) h171 ?_
    obtain ⟨h172, H⟩ := x_ckp H
    refine x_alen 154 4 dX8_init_154 h172 (by decide) ?_
    refine x_icmp_ge 155 177 dX8_init_155 (by decide) (fun c173 => ?_) (fun c173 => ?_)
    · replace H := x_ifp c173 H
      cases H
      exact x_vret 177 dX8_init_177 rfl (Nat.le_of_ble_eq_true rfl) (Nat.le_of_ble_eq_true rfl) ⟨rfl, rfl⟩
    · replace H := x_ifn c173 H
      refine x_aload_n 158 0 dX8_init_158 rfl rfl ?_
      refine x_getf 159 37 8 6 (.ref (x_r M166 v0 6)) dX8_init_159 lk_363 (by decide) (by decide) rfl (fun _ => rfl) h171 ?_
      refine x_iload_n 162 1 dX8_init_162 rfl rfl ?_
      obtain ⟨a175, M174, w176, w177, H⟩ := x_al_of H
      refine x_newc' 163 35 6 dX8_init_163 (by decide) lk_229 lk_334 lk_93 (Nat.le_of_ble_eq_true rfl) (Nat.le_of_ble_eq_true rfl) w176 w177 ?_
      have h178 : x_tag M174 a175 = 6 + 10 := x_al_tag w176 w177
      change AW _ _ _ _ _ _ 52 7423 _ _ _ _
      refine x_dup 166 dX8_init_166 rfl ?_
      obtain ⟨M179, e181, H⟩ := x_bv_of H
      refine x_callIN 167 86 [] [(.ref a175), (.int ((0 : Int32) + (1 : Int32))), (.ref (x_r M166 v0 6))] dX8_init_167 (ct_X6_init l e181) (List.mem_of_getElem? (i := 7) rfl) rfl rfl lk_336 h178 lk_93 lk_337 ⟨cn_X6_init, (by decide), by decide⟩ rfl (Nat.le_of_ble_eq_true rfl) (Nat.le_of_ble_eq_true rfl) (Nat.le_of_ble_eq_true rfl) (x_rv ?_)
      change AW _ _ _ _ _ _ 53 7583 _ _ _ _
      obtain ⟨h182, H⟩ := x_ckp H
      obtain ⟨h183, H⟩ := x_ckp H
      obtain ⟨M184, w185, H⟩ := x_lt_of H
      have h186 : x_at M184 (x_r M166 v0 6) 4 ((0 : Int32) + (1 : Int32)) = true := by rw [w185]; exact h182
      have h187 : x_tag M184 (x_r M166 v0 6) = 4 := by rw [w185]; exact (x_at_1 h182)
      have h188 : x_tag M184 a175 = 6 + 10 := by rw [w185]; exact h183
      refine x_aast4' 170 dX8_init_170 h182 h183 w185 ?_
      refine x_iinc 171 1 (((0 : Int32) + (1 : Int32)) + (1 : Int32)) [some (.ref v0), some (.int (((0 : Int32) + (1 : Int32)) + (1 : Int32)))] dX8_init_171 rfl (congrArg (fun z : Int32 => ((0 : Int32) + (1 : Int32)) + z) (show Int32.ofInt (1) = (1 : Int32) by decide)) rfl (Nat.le_of_ble_eq_true rfl) rfl ?_
      refine x_goto 174 149 dX8_init_174 (by decide) ?_
      refine x_iload_n 149 1 dX8_init_149 rfl rfl ?_
      refine x_aload_n 150 0 dX8_init_150 rfl rfl ?_
      obtain ⟨h189, H⟩ := x_ckp H
      refine x_getf 151 37 8 6 (.ref (x_r M184 v0 6)) dX8_init_151 lk_363 (by decide) (by decide) rfl (fun _ => rfl) h189 ?_
      obtain ⟨h190, H⟩ := x_ckp H
      refine x_alen 154 4 dX8_init_154 h190 (by decide) ?_
      refine x_icmp_ge 155 177 dX8_init_155 (by decide) (fun c191 => ?_) (fun c191 => ?_)
      · replace H := x_ifp c191 H
        cases H
        exact x_vret 177 dX8_init_177 rfl (Nat.le_of_ble_eq_true rfl) (Nat.le_of_ble_eq_true rfl) ⟨rfl, rfl⟩
      · replace H := x_ifn c191 H
        refine x_aload_n 158 0 dX8_init_158 rfl rfl ?_
        refine x_getf 159 37 8 6 (.ref (x_r M184 v0 6)) dX8_init_159 lk_363 (by decide) (by decide) rfl (fun _ => rfl) h189 ?_
        refine x_iload_n 162 1 dX8_init_162 rfl rfl ?_
        obtain ⟨a193, M192, w194, w195, H⟩ := x_al_of H
        refine x_newc' 163 35 6 dX8_init_163 (by decide) lk_229 lk_334 lk_93 (Nat.le_of_ble_eq_true rfl) (Nat.le_of_ble_eq_true rfl) w194 w195 ?_
        have h196 : x_tag M192 a193 = 6 + 10 := x_al_tag w194 w195
        change AW _ _ _ _ _ _ 54 7587 _ _ _ _
        refine x_dup 166 dX8_init_166 rfl ?_
        obtain ⟨M197, e199, H⟩ := x_bv_of H
        refine x_callIN 167 86 [] [(.ref a193), (.int (((0 : Int32) + (1 : Int32)) + (1 : Int32))), (.ref (x_r M184 v0 6))] dX8_init_167 (ct_X6_init l e199) (List.mem_of_getElem? (i := 7) rfl) rfl rfl lk_336 h196 lk_93 lk_337 ⟨cn_X6_init, (by decide), by decide⟩ rfl (Nat.le_of_ble_eq_true rfl) (Nat.le_of_ble_eq_true rfl) (Nat.le_of_ble_eq_true rfl) (x_rv ?_)
        change AW _ _ _ _ _ _ 55 7747 _ _ _ _
        obtain ⟨h200, H⟩ := x_ckp H
        obtain ⟨h201, H⟩ := x_ckp H
        obtain ⟨M202, w203, H⟩ := x_lt_of H
        have h204 : x_at M202 (x_r M184 v0 6) 4 (((0 : Int32) + (1 : Int32)) + (1 : Int32)) = true := by rw [w203]; exact h200
        have h205 : x_tag M202 (x_r M184 v0 6) = 4 := by rw [w203]; exact (x_at_1 h200)
        have h206 : x_tag M202 a193 = 6 + 10 := by rw [w203]; exact h201
        refine x_aast4' 170 dX8_init_170 h200 h201 w203 ?_
        refine x_iinc 171 1 ((((0 : Int32) + (1 : Int32)) + (1 : Int32)) + (1 : Int32)) [some (.ref v0), some (.int ((((0 : Int32) + (1 : Int32)) + (1 : Int32)) + (1 : Int32)))] dX8_init_171 rfl (congrArg (fun z : Int32 => (((0 : Int32) + (1 : Int32)) + (1 : Int32)) + z) (show Int32.ofInt (1) = (1 : Int32) by decide)) rfl (Nat.le_of_ble_eq_true rfl) rfl ?_
        refine x_goto 174 149 dX8_init_174 (by decide) ?_
        refine x_iload_n 149 1 dX8_init_149 rfl rfl ?_
        refine x_aload_n 150 0 dX8_init_150 rfl rfl ?_
        obtain ⟨h207, H⟩ := x_ckp H
        refine x_getf 151 37 8 6 (.ref (x_r M202 v0 6)) dX8_init_151 lk_363 (by decide) (by decide) rfl (fun _ => rfl) h207 ?_
        obtain ⟨h208, H⟩ := x_ckp H
        refine x_alen 154 4 dX8_init_154 h208 (by decide) ?_
        refine x_icmp_ge 155 177 dX8_init_155 (by decide) (fun c209 => ?_) (fun c209 => ?_)
        · replace H := x_ifp c209 H
          cases H
          exact x_vret 177 dX8_init_177 rfl (Nat.le_of_ble_eq_true rfl) (Nat.le_of_ble_eq_true rfl) ⟨rfl, rfl⟩
        · replace H := x_ifn c209 H
          refine x_aload_n 158 0 dX8_init_158 rfl rfl ?_
          refine x_getf 159 37 8 6 (.ref (x_r M202 v0 6)) dX8_init_159 lk_363 (by decide) (by decide) rfl (fun _ => rfl) h207 ?_
          refine x_iload_n 162 1 dX8_init_162 rfl rfl ?_
          obtain ⟨a211, M210, w212, w213, H⟩ := x_al_of H
          refine x_newc' 163 35 6 dX8_init_163 (by decide) lk_229 lk_334 lk_93 (Nat.le_of_ble_eq_true rfl) (Nat.le_of_ble_eq_true rfl) w212 w213 ?_
          have h214 : x_tag M210 a211 = 6 + 10 := x_al_tag w212 w213
          change AW _ _ _ _ _ _ 56 7751 _ _ _ _
          refine x_dup 166 dX8_init_166 rfl ?_
          obtain ⟨M215, e217, H⟩ := x_bv_of H
          refine x_callIN 167 86 [] [(.ref a211), (.int ((((0 : Int32) + (1 : Int32)) + (1 : Int32)) + (1 : Int32))), (.ref (x_r M202 v0 6))] dX8_init_167 (ct_X6_init l e217) (List.mem_of_getElem? (i := 7) rfl) rfl rfl lk_336 h214 lk_93 lk_337 ⟨cn_X6_init, (by decide), by decide⟩ rfl (Nat.le_of_ble_eq_true rfl) (Nat.le_of_ble_eq_true rfl) (Nat.le_of_ble_eq_true rfl) (x_rv ?_)
          change AW _ _ _ _ _ _ 57 7911 _ _ _ _
          obtain ⟨h218, H⟩ := x_ckp H
          obtain ⟨h219, H⟩ := x_ckp H
          obtain ⟨M220, w221, H⟩ := x_lt_of H
          have h222 : x_at M220 (x_r M202 v0 6) 4 ((((0 : Int32) + (1 : Int32)) + (1 : Int32)) + (1 : Int32)) = true := by rw [w221]; exact h218
          have h223 : x_tag M220 (x_r M202 v0 6) = 4 := by rw [w221]; exact (x_at_1 h218)
          have h224 : x_tag M220 a211 = 6 + 10 := by rw [w221]; exact h219
          refine x_aast4' 170 dX8_init_170 h218 h219 w221 ?_
          refine x_iinc 171 1 (((((0 : Int32) + (1 : Int32)) + (1 : Int32)) + (1 : Int32)) + (1 : Int32)) [some (.ref v0), some (.int (((((0 : Int32) + (1 : Int32)) + (1 : Int32)) + (1 : Int32)) + (1 : Int32)))] dX8_init_171 rfl (congrArg (fun z : Int32 => ((((0 : Int32) + (1 : Int32)) + (1 : Int32)) + (1 : Int32)) + z) (show Int32.ofInt (1) = (1 : Int32) by decide)) rfl (Nat.le_of_ble_eq_true rfl) rfl ?_
          refine x_goto 174 149 dX8_init_174 (by decide) ?_
          refine x_iload_n 149 1 dX8_init_149 rfl rfl ?_
          refine x_aload_n 150 0 dX8_init_150 rfl rfl ?_
          obtain ⟨h225, H⟩ := x_ckp H
          refine x_getf 151 37 8 6 (.ref (x_r M220 v0 6)) dX8_init_151 lk_363 (by decide) (by decide) rfl (fun _ => rfl) h225 ?_
          obtain ⟨h226, H⟩ := x_ckp H
          refine x_alen 154 4 dX8_init_154 h226 (by decide) ?_
          refine x_icmp_ge 155 177 dX8_init_155 (by decide) (fun c227 => ?_) (fun c227 => ?_)
          · replace H := x_ifp c227 H
            cases H
            exact x_vret 177 dX8_init_177 rfl (Nat.le_of_ble_eq_true rfl) (Nat.le_of_ble_eq_true rfl) ⟨rfl, rfl⟩
          · replace H := x_ifn c227 H
            refine x_aload_n 158 0 dX8_init_158 rfl rfl ?_
            refine x_getf 159 37 8 6 (.ref (x_r M220 v0 6)) dX8_init_159 lk_363 (by decide) (by decide) rfl (fun _ => rfl) h225 ?_
            refine x_iload_n 162 1 dX8_init_162 rfl rfl ?_
            obtain ⟨a229, M228, w230, w231, H⟩ := x_al_of H
            refine x_newc' 163 35 6 dX8_init_163 (by decide) lk_229 lk_334 lk_93 (Nat.le_of_ble_eq_true rfl) (Nat.le_of_ble_eq_true rfl) w230 w231 ?_
            have h232 : x_tag M228 a229 = 6 + 10 := x_al_tag w230 w231
            change AW _ _ _ _ _ _ 58 7915 _ _ _ _
            refine x_dup 166 dX8_init_166 rfl ?_
            obtain ⟨M233, e235, H⟩ := x_bv_of H
            refine x_callIN 167 86 [] [(.ref a229), (.int (((((0 : Int32) + (1 : Int32)) + (1 : Int32)) + (1 : Int32)) + (1 : Int32))), (.ref (x_r M220 v0 6))] dX8_init_167 (ct_X6_init l e235) (List.mem_of_getElem? (i := 7) rfl) rfl rfl lk_336 h232 lk_93 lk_337 ⟨cn_X6_init, (by decide), by decide⟩ rfl (Nat.le_of_ble_eq_true rfl) (Nat.le_of_ble_eq_true rfl) (Nat.le_of_ble_eq_true rfl) (x_rv ?_)
            change AW _ _ _ _ _ _ 59 8075 _ _ _ _
            obtain ⟨h236, H⟩ := x_ckp H
            obtain ⟨h237, H⟩ := x_ckp H
            obtain ⟨M238, w239, H⟩ := x_lt_of H
            have h240 : x_at M238 (x_r M220 v0 6) 4 (((((0 : Int32) + (1 : Int32)) + (1 : Int32)) + (1 : Int32)) + (1 : Int32)) = true := by rw [w239]; exact h236
            have h241 : x_tag M238 (x_r M220 v0 6) = 4 := by rw [w239]; exact (x_at_1 h236)
            have h242 : x_tag M238 a229 = 6 + 10 := by rw [w239]; exact h237
            refine x_aast4' 170 dX8_init_170 h236 h237 w239 ?_
            refine x_iinc 171 1 ((((((0 : Int32) + (1 : Int32)) + (1 : Int32)) + (1 : Int32)) + (1 : Int32)) + (1 : Int32)) [some (.ref v0), some (.int ((((((0 : Int32) + (1 : Int32)) + (1 : Int32)) + (1 : Int32)) + (1 : Int32)) + (1 : Int32)))] dX8_init_171 rfl (congrArg (fun z : Int32 => (((((0 : Int32) + (1 : Int32)) + (1 : Int32)) + (1 : Int32)) + (1 : Int32)) + z) (show Int32.ofInt (1) = (1 : Int32) by decide)) rfl (Nat.le_of_ble_eq_true rfl) rfl ?_
            refine x_goto 174 149 dX8_init_174 (by decide) ?_
            refine x_iload_n 149 1 dX8_init_149 rfl rfl ?_
            refine x_aload_n 150 0 dX8_init_150 rfl rfl ?_
            obtain ⟨h243, H⟩ := x_ckp H
            refine x_getf 151 37 8 6 (.ref (x_r M238 v0 6)) dX8_init_151 lk_363 (by decide) (by decide) rfl (fun _ => rfl) h243 ?_
            obtain ⟨h244, H⟩ := x_ckp H
            refine x_alen 154 4 dX8_init_154 h244 (by decide) ?_
            refine x_icmp_ge 155 177 dX8_init_155 (by decide) (fun c245 => ?_) (fun c245 => ?_)
            · replace H := x_ifp c245 H
              cases H
              exact x_vret 177 dX8_init_177 rfl (Nat.le_of_ble_eq_true rfl) (Nat.le_of_ble_eq_true rfl) ⟨rfl, rfl⟩
            · replace H := x_ifn c245 H
              refine x_aload_n 158 0 dX8_init_158 rfl rfl ?_
              refine x_getf 159 37 8 6 (.ref (x_r M238 v0 6)) dX8_init_159 lk_363 (by decide) (by decide) rfl (fun _ => rfl) h243 ?_
              refine x_iload_n 162 1 dX8_init_162 rfl rfl ?_
              obtain ⟨a247, M246, w248, w249, H⟩ := x_al_of H
              refine x_newc' 163 35 6 dX8_init_163 (by decide) lk_229 lk_334 lk_93 (Nat.le_of_ble_eq_true rfl) (Nat.le_of_ble_eq_true rfl) w248 w249 ?_
              have h250 : x_tag M246 a247 = 6 + 10 := x_al_tag w248 w249
              change AW _ _ _ _ _ _ 60 8079 _ _ _ _
              refine x_dup 166 dX8_init_166 rfl ?_
              obtain ⟨M251, e253, H⟩ := x_bv_of H
              refine x_callIN 167 86 [] [(.ref a247), (.int ((((((0 : Int32) + (1 : Int32)) + (1 : Int32)) + (1 : Int32)) + (1 : Int32)) + (1 : Int32))), (.ref (x_r M238 v0 6))] dX8_init_167 (ct_X6_init l e253) (List.mem_of_getElem? (i := 7) rfl) rfl rfl lk_336 h250 lk_93 lk_337 ⟨cn_X6_init, (by decide), by decide⟩ rfl (Nat.le_of_ble_eq_true rfl) (Nat.le_of_ble_eq_true rfl) (Nat.le_of_ble_eq_true rfl) (x_rv ?_)
              change AW _ _ _ _ _ _ 61 8239 _ _ _ _
              obtain ⟨h254, H⟩ := x_ckp H
              obtain ⟨h255, H⟩ := x_ckp H
              obtain ⟨M256, w257, H⟩ := x_lt_of H
              have h258 : x_at M256 (x_r M238 v0 6) 4 ((((((0 : Int32) + (1 : Int32)) + (1 : Int32)) + (1 : Int32)) + (1 : Int32)) + (1 : Int32)) = true := by rw [w257]; exact h254
              have h259 : x_tag M256 (x_r M238 v0 6) = 4 := by rw [w257]; exact (x_at_1 h254)
              have h260 : x_tag M256 a247 = 6 + 10 := by rw [w257]; exact h255
              refine x_aast4' 170 dX8_init_170 h254 h255 w257 ?_
              refine x_iinc 171 1 (((((((0 : Int32) + (1 : Int32)) + (1 : Int32)) + (1 : Int32)) + (1 : Int32)) + (1 : Int32)) + (1 : Int32)) [some (.ref v0), some (.int (((((((0 : Int32) + (1 : Int32)) + (1 : Int32)) + (1 : Int32)) + (1 : Int32)) + (1 : Int32)) + (1 : Int32)))] dX8_init_171 rfl (congrArg (fun z : Int32 => ((((((0 : Int32) + (1 : Int32)) + (1 : Int32)) + (1 : Int32)) + (1 : Int32)) + (1 : Int32)) + z) (show Int32.ofInt (1) = (1 : Int32) by decide)) rfl (Nat.le_of_ble_eq_true rfl) rfl ?_
              refine x_goto 174 149 dX8_init_174 (by decide) ?_
              refine x_iload_n 149 1 dX8_init_149 rfl rfl ?_
              refine x_aload_n 150 0 dX8_init_150 rfl rfl ?_
              obtain ⟨h261, H⟩ := x_ckp H
              refine x_getf 151 37 8 6 (.ref (x_r M256 v0 6)) dX8_init_151 lk_363 (by decide) (by decide) rfl (fun _ => rfl) h261 ?_
              obtain ⟨h262, H⟩ := x_ckp H
              refine x_alen 154 4 dX8_init_154 h262 (by decide) ?_
              refine x_icmp_ge 155 177 dX8_init_155 (by decide) (fun c263 => ?_) (fun c263 => ?_)
              · replace H := x_ifp c263 H
                cases H
                exact x_vret 177 dX8_init_177 rfl (Nat.le_of_ble_eq_true rfl) (Nat.le_of_ble_eq_true rfl) ⟨rfl, rfl⟩
              · replace H := x_ifn c263 H
                refine x_aload_n 158 0 dX8_init_158 rfl rfl ?_
                refine x_getf 159 37 8 6 (.ref (x_r M256 v0 6)) dX8_init_159 lk_363 (by decide) (by decide) rfl (fun _ => rfl) h261 ?_
                refine x_iload_n 162 1 dX8_init_162 rfl rfl ?_
                obtain ⟨a265, M264, w266, w267, H⟩ := x_al_of H
                refine x_newc' 163 35 6 dX8_init_163 (by decide) lk_229 lk_334 lk_93 (Nat.le_of_ble_eq_true rfl) (Nat.le_of_ble_eq_true rfl) w266 w267 ?_
                have h268 : x_tag M264 a265 = 6 + 10 := x_al_tag w266 w267
                change AW _ _ _ _ _ _ 62 8243 _ _ _ _
                refine x_dup 166 dX8_init_166 rfl ?_
                obtain ⟨M269, e271, H⟩ := x_bv_of H
                refine x_callIN 167 86 [] [(.ref a265), (.int (((((((0 : Int32) + (1 : Int32)) + (1 : Int32)) + (1 : Int32)) + (1 : Int32)) + (1 : Int32)) + (1 : Int32))), (.ref (x_r M256 v0 6))] dX8_init_167 (ct_X6_init l e271) (List.mem_of_getElem? (i := 7) rfl) rfl rfl lk_336 h268 lk_93 lk_337 ⟨cn_X6_init, (by decide), by decide⟩ rfl (Nat.le_of_ble_eq_true rfl) (Nat.le_of_ble_eq_true rfl) (Nat.le_of_ble_eq_true rfl) (x_rv ?_)
                change AW _ _ _ _ _ _ 63 8403 _ _ _ _
                obtain ⟨h272, H⟩ := x_ckp H
                obtain ⟨h273, H⟩ := x_ckp H
                obtain ⟨M274, w275, H⟩ := x_lt_of H
                have h276 : x_at M274 (x_r M256 v0 6) 4 (((((((0 : Int32) + (1 : Int32)) + (1 : Int32)) + (1 : Int32)) + (1 : Int32)) + (1 : Int32)) + (1 : Int32)) = true := by rw [w275]; exact h272
                have h277 : x_tag M274 (x_r M256 v0 6) = 4 := by rw [w275]; exact (x_at_1 h272)
                have h278 : x_tag M274 a265 = 6 + 10 := by rw [w275]; exact h273
                refine x_aast4' 170 dX8_init_170 h272 h273 w275 ?_
                refine x_iinc 171 1 ((((((((0 : Int32) + (1 : Int32)) + (1 : Int32)) + (1 : Int32)) + (1 : Int32)) + (1 : Int32)) + (1 : Int32)) + (1 : Int32)) [some (.ref v0), some (.int ((((((((0 : Int32) + (1 : Int32)) + (1 : Int32)) + (1 : Int32)) + (1 : Int32)) + (1 : Int32)) + (1 : Int32)) + (1 : Int32)))] dX8_init_171 rfl (congrArg (fun z : Int32 => (((((((0 : Int32) + (1 : Int32)) + (1 : Int32)) + (1 : Int32)) + (1 : Int32)) + (1 : Int32)) + (1 : Int32)) + z) (show Int32.ofInt (1) = (1 : Int32) by decide)) rfl (Nat.le_of_ble_eq_true rfl) rfl ?_
                refine x_goto 174 149 dX8_init_174 (by decide) ?_
                refine x_iload_n 149 1 dX8_init_149 rfl rfl ?_
                refine x_aload_n 150 0 dX8_init_150 rfl rfl ?_
                obtain ⟨h279, H⟩ := x_ckp H
                refine x_getf 151 37 8 6 (.ref (x_r M274 v0 6)) dX8_init_151 lk_363 (by decide) (by decide) rfl (fun _ => rfl) h279 ?_
                obtain ⟨h280, H⟩ := x_ckp H
                refine x_alen 154 4 dX8_init_154 h280 (by decide) ?_
                refine x_icmp_ge 155 177 dX8_init_155 (by decide) (fun c281 => ?_) (fun c281 => ?_)
                · replace H := x_ifp c281 H
                  cases H
                  exact x_vret 177 dX8_init_177 rfl (Nat.le_of_ble_eq_true rfl) (Nat.le_of_ble_eq_true rfl) ⟨rfl, rfl⟩
                · replace H := x_ifn c281 H
                  refine x_aload_n 158 0 dX8_init_158 rfl rfl ?_
                  refine x_getf 159 37 8 6 (.ref (x_r M274 v0 6)) dX8_init_159 lk_363 (by decide) (by decide) rfl (fun _ => rfl) h279 ?_
                  refine x_iload_n 162 1 dX8_init_162 rfl rfl ?_
                  obtain ⟨a283, M282, w284, w285, H⟩ := x_al_of H
                  refine x_newc' 163 35 6 dX8_init_163 (by decide) lk_229 lk_334 lk_93 (Nat.le_of_ble_eq_true rfl) (Nat.le_of_ble_eq_true rfl) w284 w285 ?_
                  have h286 : x_tag M282 a283 = 6 + 10 := x_al_tag w284 w285
                  change AW _ _ _ _ _ _ 64 8407 _ _ _ _
                  refine x_dup 166 dX8_init_166 rfl ?_
                  obtain ⟨M287, e289, H⟩ := x_bv_of H
                  refine x_callIN 167 86 [] [(.ref a283), (.int ((((((((0 : Int32) + (1 : Int32)) + (1 : Int32)) + (1 : Int32)) + (1 : Int32)) + (1 : Int32)) + (1 : Int32)) + (1 : Int32))), (.ref (x_r M274 v0 6))] dX8_init_167 (ct_X6_init l e289) (List.mem_of_getElem? (i := 7) rfl) rfl rfl lk_336 h286 lk_93 lk_337 ⟨cn_X6_init, (by decide), by decide⟩ rfl (Nat.le_of_ble_eq_true rfl) (Nat.le_of_ble_eq_true rfl) (Nat.le_of_ble_eq_true rfl) (x_rv ?_)
                  change AW _ _ _ _ _ _ 65 8567 _ _ _ _
                  obtain ⟨h290, H⟩ := x_ckp H
                  obtain ⟨h291, H⟩ := x_ckp H
                  obtain ⟨M292, w293, H⟩ := x_lt_of H
                  have h294 : x_at M292 (x_r M274 v0 6) 4 ((((((((0 : Int32) + (1 : Int32)) + (1 : Int32)) + (1 : Int32)) + (1 : Int32)) + (1 : Int32)) + (1 : Int32)) + (1 : Int32)) = true := by rw [w293]; exact h290
                  have h295 : x_tag M292 (x_r M274 v0 6) = 4 := by rw [w293]; exact (x_at_1 h290)
                  have h296 : x_tag M292 a283 = 6 + 10 := by rw [w293]; exact h291
                  refine x_aast4' 170 dX8_init_170 h290 h291 w293 ?_
                  refine x_iinc 171 1 (((((((((0 : Int32) + (1 : Int32)) + (1 : Int32)) + (1 : Int32)) + (1 : Int32)) + (1 : Int32)) + (1 : Int32)) + (1 : Int32)) + (1 : Int32)) [some (.ref v0), some (.int (((((((((0 : Int32) + (1 : Int32)) + (1 : Int32)) + (1 : Int32)) + (1 : Int32)) + (1 : Int32)) + (1 : Int32)) + (1 : Int32)) + (1 : Int32)))] dX8_init_171 rfl (congrArg (fun z : Int32 => ((((((((0 : Int32) + (1 : Int32)) + (1 : Int32)) + (1 : Int32)) + (1 : Int32)) + (1 : Int32)) + (1 : Int32)) + (1 : Int32)) + z) (show Int32.ofInt (1) = (1 : Int32) by decide)) rfl (Nat.le_of_ble_eq_true rfl) rfl ?_
                  refine x_goto 174 149 dX8_init_174 (by decide) ?_
                  refine x_iload_n 149 1 dX8_init_149 rfl rfl ?_
                  refine x_aload_n 150 0 dX8_init_150 rfl rfl ?_
                  obtain ⟨h297, H⟩ := x_ckp H
                  refine x_getf 151 37 8 6 (.ref (x_r M292 v0 6)) dX8_init_151 lk_363 (by decide) (by decide) rfl (fun _ => rfl) h297 ?_
                  obtain ⟨h298, H⟩ := x_ckp H
                  refine x_alen 154 4 dX8_init_154 h298 (by decide) ?_
                  refine x_icmp_ge 155 177 dX8_init_155 (by decide) (fun c299 => ?_) (fun c299 => ?_)
                  · replace H := x_ifp c299 H
                    cases H
                    exact x_vret 177 dX8_init_177 rfl (Nat.le_of_ble_eq_true rfl) (Nat.le_of_ble_eq_true rfl) ⟨rfl, rfl⟩
                  · replace H := x_ifn c299 H
                    refine x_aload_n 158 0 dX8_init_158 rfl rfl ?_
                    refine x_getf 159 37 8 6 (.ref (x_r M292 v0 6)) dX8_init_159 lk_363 (by decide) (by decide) rfl (fun _ => rfl) h297 ?_
                    refine x_iload_n 162 1 dX8_init_162 rfl rfl ?_
                    obtain ⟨a301, M300, w302, w303, H⟩ := x_al_of H
                    refine x_newc' 163 35 6 dX8_init_163 (by decide) lk_229 lk_334 lk_93 (Nat.le_of_ble_eq_true rfl) (Nat.le_of_ble_eq_true rfl) w302 w303 ?_
                    have h304 : x_tag M300 a301 = 6 + 10 := x_al_tag w302 w303
                    change AW _ _ _ _ _ _ 66 8571 _ _ _ _
                    refine x_dup 166 dX8_init_166 rfl ?_
                    obtain ⟨M305, e307, H⟩ := x_bv_of H
                    refine x_callIN 167 86 [] [(.ref a301), (.int (((((((((0 : Int32) + (1 : Int32)) + (1 : Int32)) + (1 : Int32)) + (1 : Int32)) + (1 : Int32)) + (1 : Int32)) + (1 : Int32)) + (1 : Int32))), (.ref (x_r M292 v0 6))] dX8_init_167 (ct_X6_init l e307) (List.mem_of_getElem? (i := 7) rfl) rfl rfl lk_336 h304 lk_93 lk_337 ⟨cn_X6_init, (by decide), by decide⟩ rfl (Nat.le_of_ble_eq_true rfl) (Nat.le_of_ble_eq_true rfl) (Nat.le_of_ble_eq_true rfl) (x_rv ?_)
                    change AW _ _ _ _ _ _ 67 8731 _ _ _ _
                    obtain ⟨h308, H⟩ := x_ckp H
                    obtain ⟨h309, H⟩ := x_ckp H
                    obtain ⟨M310, w311, H⟩ := x_lt_of H
                    have h312 : x_at M310 (x_r M292 v0 6) 4 (((((((((0 : Int32) + (1 : Int32)) + (1 : Int32)) + (1 : Int32)) + (1 : Int32)) + (1 : Int32)) + (1 : Int32)) + (1 : Int32)) + (1 : Int32)) = true := by rw [w311]; exact h308
                    have h313 : x_tag M310 (x_r M292 v0 6) = 4 := by rw [w311]; exact (x_at_1 h308)
                    have h314 : x_tag M310 a301 = 6 + 10 := by rw [w311]; exact h309
                    refine x_aast4' 170 dX8_init_170 h308 h309 w311 ?_
                    refine x_iinc 171 1 ((((((((((0 : Int32) + (1 : Int32)) + (1 : Int32)) + (1 : Int32)) + (1 : Int32)) + (1 : Int32)) + (1 : Int32)) + (1 : Int32)) + (1 : Int32)) + (1 : Int32)) [some (.ref v0), some (.int ((((((((((0 : Int32) + (1 : Int32)) + (1 : Int32)) + (1 : Int32)) + (1 : Int32)) + (1 : Int32)) + (1 : Int32)) + (1 : Int32)) + (1 : Int32)) + (1 : Int32)))] dX8_init_171 rfl (congrArg (fun z : Int32 => (((((((((0 : Int32) + (1 : Int32)) + (1 : Int32)) + (1 : Int32)) + (1 : Int32)) + (1 : Int32)) + (1 : Int32)) + (1 : Int32)) + (1 : Int32)) + z) (show Int32.ofInt (1) = (1 : Int32) by decide)) rfl (Nat.le_of_ble_eq_true rfl) rfl ?_
                    refine x_goto 174 149 dX8_init_174 (by decide) ?_
                    cases H

theorem ct_X8_init (l : Launch) {v0 : Nat} {M : XM} {q : XM} (H : f_X8_init v0 M = some q) : Ct l m_X8_init 3 67 8731 [(.ref v0)] M (x_Rv q) := x_met l m_X8_init 3 67 8731 [(.ref v0)] M (x_Rv q) _ rfl rfl (Nat.le_of_ble_eq_true rfl) (t_X8_init l H)
abbrev m_X8_isShelf : XU := (yX8_isShelf, cX8_isShelf, 1, (some .boolean))
theorem cn_X8_isShelf : m_X8_isShelf.1.cls ≠ "java/lang/invoke/MethodHandle" ∧ m_X8_isShelf.1.cls ≠ "java/lang/invoke/VarHandle" ∧ (parseMethodDescriptor m_X8_isShelf.1.desc).map (fun q => q.parameters.length) = some 1 := by decide +kernel
def f_X8_isShelf (v0 : Int32) (M : XM) : Option (Int32 × XM) :=
  if v0 < 0 then (some ((0 : Int32), M)) else (if (8 : Int32) ≤ v0 then (some ((0 : Int32), M)) else (some ((1 : Int32), M)))
set_option maxRecDepth 20000 in
set_option maxHeartbeats 4000000 in
theorem t_X8_isShelf (l : Launch) {v0 : Int32} {M : XM} {q : Int32 × XM} (H : f_X8_isShelf v0 M = some q) : AW l m_X8_isShelf 1 0 0 (x_Ri q) 0 0 0 [some (.int v0)] [] M := by
  unfold f_X8_isShelf at H
  refine x_iload_n 0 0 dX8_isShelf_0 rfl rfl ?_
  refine x_if_lt 1 14 dX8_isShelf_1 (by decide) (fun c1 => ?_) (fun c1 => ?_)
  · replace H := x_ifp c1 H
    refine x_iconst 14 (0 : Int32) dX8_isShelf_14 (by decide) ?_
    cases H
    exact x_iret 15 dX8_isShelf_15 .boolean rfl rfl (Nat.le_of_ble_eq_true rfl) (Nat.le_of_ble_eq_true rfl) ⟨rfl, rfl⟩
  · replace H := x_ifn c1 H
    refine x_iload_n 4 0 dX8_isShelf_4 rfl rfl ?_
    refine x_bipush 5 (8 : Int32) dX8_isShelf_5 (by decide) ?_
    refine x_icmp_ge 7 14 dX8_isShelf_7 (by decide) (fun c2 => ?_) (fun c2 => ?_)
    · replace H := x_ifp c2 H
      refine x_iconst 14 (0 : Int32) dX8_isShelf_14 (by decide) ?_
      cases H
      exact x_iret 15 dX8_isShelf_15 .boolean rfl rfl (Nat.le_of_ble_eq_true rfl) (Nat.le_of_ble_eq_true rfl) ⟨rfl, rfl⟩
    · replace H := x_ifn c2 H
      refine x_iconst 10 (1 : Int32) dX8_isShelf_10 (by decide) ?_
      refine x_goto 11 15 dX8_isShelf_11 (by decide) ?_
      cases H
      exact x_iret 15 dX8_isShelf_15 .boolean rfl rfl (Nat.le_of_ble_eq_true rfl) (Nat.le_of_ble_eq_true rfl) ⟨rfl, rfl⟩

theorem ct_X8_isShelf (l : Launch) {v0 : Int32} {M : XM} {q : Int32 × XM} (H : f_X8_isShelf v0 M = some q) : Ct l m_X8_isShelf 1 0 0 [(.int v0)] M (x_Ri q) := x_met l m_X8_isShelf 1 0 0 [(.int v0)] M (x_Ri q) _ rfl rfl (Nat.le_of_ble_eq_true rfl) (t_X8_isShelf l H)
theorem lk_409 : Cond.code yX8_isShelf cX8_isShelf 1 (some .boolean) ∈ x_TB := x_tb (k := 409) (by decide +kernel) rfl
theorem lk_407 : Cond.methodLink RX8 87 yX8_isShelf ∈ x_TB := x_tb (k := 407) (by decide +kernel) rfl
theorem lk_408 : Cond.static yX8_isShelf ∈ x_TB := x_tb (k := 408) (by decide +kernel) rfl
abbrev m_X8_refuse : XU := (yX8_refuse, cX8_refuse, 2, (some .int))
theorem cn_X8_refuse : m_X8_refuse.1.cls ≠ "java/lang/invoke/MethodHandle" ∧ m_X8_refuse.1.cls ≠ "java/lang/invoke/VarHandle" ∧ (parseMethodDescriptor m_X8_refuse.1.desc).map (fun q => q.parameters.length) = some 1 := by decide +kernel
def f_X8_refuse (v0 : Nat) (v1 : Int32) (M : XM) : Option (Int32 × XM) :=
  if (0 : Int32) ≤ v1 then (some (v1, M)) else (if x_tag M v0 = 8 + 10 then (if x_tag M (x_r M v0 7) = 1 then (if (Int32.ofNat (x_len M (x_r M v0 7))) ≤ (-v1) then (some (v1, M)) else (if x_at M (x_r M v0 7) 1 (-v1) = true then (x_lt (x_wi M (x_r M v0 7) (-v1).toNatClampNeg ((x_i M (x_r M v0 7) (-v1).toNatClampNeg) + (1 : Int32))) (fun M6 => some (v1, M6))) else none)) else none) else none)
set_option maxRecDepth 20000 in
set_option maxHeartbeats 4000000 in
theorem t_X8_refuse (l : Launch) {v0 : Nat} {v1 : Int32} {M : XM} {q : Int32 × XM} (H : f_X8_refuse v0 v1 M = some q) : AW l m_X8_refuse 1 0 0 (x_Ri q) 0 0 0 [some (.ref v0), some (.int v1)] [] M := by
  unfold f_X8_refuse at H
  refine x_iload_n 0 1 dX8_refuse_0 rfl rfl ?_
  refine x_if_ge 1 25 dX8_refuse_1 (by decide) (fun c1 => ?_) (fun c1 => ?_)
  · replace H := x_ifp c1 H
    refine x_iload_n 25 1 dX8_refuse_25 rfl rfl ?_
    cases H
    exact x_iret 26 dX8_refuse_26 .int rfl rfl (Nat.le_of_ble_eq_true rfl) (Nat.le_of_ble_eq_true rfl) ⟨rfl, rfl⟩
  · replace H := x_ifn c1 H
    refine x_iload_n 4 1 dX8_refuse_4 rfl rfl ?_
    refine x_ineg 5 dX8_refuse_5 ?_
    refine x_aload_n 6 0 dX8_refuse_6 rfl rfl ?_
    obtain ⟨h2, H⟩ := x_ckp H
    refine x_getf 7 41 8 7 (.ref (x_r M v0 7)) dX8_refuse_7 lk_364 (by decide) (by decide) rfl (fun _ => rfl) h2 ?_
    obtain ⟨h3, H⟩ := x_ckp H
    refine x_alen 10 1 dX8_refuse_10 h3 (by decide) ?_
    refine x_icmp_ge 11 25 dX8_refuse_11 (by decide) (fun c4 => ?_) (fun c4 => ?_)
    · replace H := x_ifp c4 H
      refine x_iload_n 25 1 dX8_refuse_25 rfl rfl ?_
      cases H
      exact x_iret 26 dX8_refuse_26 .int rfl rfl (Nat.le_of_ble_eq_true rfl) (Nat.le_of_ble_eq_true rfl) ⟨rfl, rfl⟩
    · replace H := x_ifn c4 H
      refine x_aload_n 14 0 dX8_refuse_14 rfl rfl ?_
      refine x_getf 15 41 8 7 (.ref (x_r M v0 7)) dX8_refuse_15 lk_364 (by decide) (by decide) rfl (fun _ => rfl) h2 ?_
      refine x_iload_n 18 1 dX8_refuse_18 rfl rfl ?_
      refine x_ineg 19 dX8_refuse_19 ?_
      refine x_dup2 20 dX8_refuse_20 rfl rfl ?_
      obtain ⟨h5, H⟩ := x_ckp H
      refine x_iald 21 dX8_refuse_21 h5 ?_
      refine x_iconst 22 (1 : Int32) dX8_refuse_22 (by decide) ?_
      refine x_iadd 23 dX8_refuse_23 ?_
      obtain ⟨M6, w7, H⟩ := x_lt_of H
      have h8 : x_tag M6 v0 = 8 + 10 := by rw [w7]; exact h2
      have h9 : x_tag M6 (x_r M v0 7) = 1 := by rw [w7]; exact h3
      have h10 : x_at M6 (x_r M v0 7) 1 (-v1) = true := by rw [w7]; exact h5
      refine x_iast' 24 dX8_refuse_24 h5 w7 ?_
      refine x_iload_n 25 1 dX8_refuse_25 rfl rfl ?_
      cases H
      exact x_iret 26 dX8_refuse_26 .int rfl rfl (Nat.le_of_ble_eq_true rfl) (Nat.le_of_ble_eq_true rfl) ⟨rfl, rfl⟩

theorem ct_X8_refuse (l : Launch) {v0 : Nat} {v1 : Int32} {M : XM} {q : Int32 × XM} (H : f_X8_refuse v0 v1 M = some q) : Ct l m_X8_refuse 1 0 0 [(.ref v0), (.int v1)] M (x_Ri q) := x_met l m_X8_refuse 1 0 0 [(.ref v0), (.int v1)] M (x_Ri q) _ rfl rfl (Nat.le_of_ble_eq_true rfl) (t_X8_refuse l H)
theorem lk_413 : Cond.code yX8_refuse cX8_refuse 2 (some .int) ∈ x_TB := x_tb (k := 413) (by decide +kernel) rfl
theorem lk_410 : Cond.methodLink RX8 91 yX8_refuse ∈ x_TB := x_tb (k := 410) (by decide +kernel) rfl
theorem lk_0 : Cond.selects RX8 yX8_refuse yX8_refuse ∈ x_TB := x_tb (k := 0) (by decide +kernel) rfl
theorem lk_412 : Cond.instanceMethod yX8_refuse ∈ x_TB := x_tb (k := 412) (by decide +kernel) rfl
theorem lk_417 : Cond.code yX6_holdRow cX6_holdRow 3 none ∈ x_TB := x_tb (k := 417) (by decide +kernel) rfl
theorem lk_414 : Cond.methodLink RX8 95 yX6_holdRow ∈ x_TB := x_tb (k := 414) (by decide +kernel) rfl
theorem lk_416 : Cond.selects RX6 yX6_holdRow yX6_holdRow ∈ x_TB := x_tb (k := 416) (by decide +kernel) rfl
theorem lk_415 : Cond.instanceMethod yX6_holdRow ∈ x_TB := x_tb (k := 415) (by decide +kernel) rfl
abbrev m_X8_row : XU := (yX8_row, cX8_row, 4, (some .int))
theorem cn_X8_row : m_X8_row.1.cls ≠ "java/lang/invoke/MethodHandle" ∧ m_X8_row.1.cls ≠ "java/lang/invoke/VarHandle" ∧ (parseMethodDescriptor m_X8_row.1.desc).map (fun q => q.parameters.length) = some 3 := by decide +kernel
def f_X8_row_33 (v0 : Nat) (M : XM) : Option (Int32 × XM) :=
  if x_tag M v0 = 8 + 10 then (x_bd (f_X8_refuse v0 (-6 : Int32) M) (fun r13 M12 => some (r13, M12))) else none
set_option maxRecDepth 20000 in
set_option maxHeartbeats 4000000 in
theorem t_X8_row_33 (l : Launch) {v0 : Nat} {M : XM} {q : Int32 × XM} (H : f_X8_row_33 v0 M = some q) : AW l m_X8_row 3 0 0 (x_Ri q) 0 0 33 [some (.ref v0), none, none, none] [] M := by
  unfold f_X8_row_33 at H
  refine x_aload_n 33 0 dX8_row_33 rfl rfl ?_
  refine x_bipush 34 (-6 : Int32) dX8_row_34 (by decide) ?_
  obtain ⟨h11, H⟩ := x_ckp H
  obtain ⟨r13, M12, e14, H⟩ := x_bd_of H
  refine x_callV 36 91 8 [(.int (-6 : Int32))] [] dX8_row_36 (ct_X8_refuse l e14) lk_410 lk_412 lk_0 (by decide) h11 lk_85 lk_413 ⟨cn_X8_refuse, (by decide), by decide⟩ rfl (Nat.le_of_ble_eq_true rfl) (Nat.le_of_ble_eq_true rfl) (Nat.le_of_ble_eq_true rfl) (x_ri ?_)
  cases H
  exact x_iret 39 dX8_row_39 .int rfl rfl (Nat.le_of_ble_eq_true rfl) (Nat.le_of_ble_eq_true rfl) ⟨rfl, rfl⟩

def f_X8_row (v0 : Nat) (v1 : Int32) (v2 : Int32) (v3 : Int32) (M : XM) : Option (Int32 × XM) :=
  x_bd (f_X8_isShelf v1 M) (fun r2 M1 => if r2 = 0 then (if x_tag M1 v0 = 8 + 10 then (x_bd (f_X8_refuse v0 (-1 : Int32) M1) (fun r7 M6 => some (r7, M6))) else none) else (if (0 : Int32) ≤ v3 then (if v2 < 0 then (f_X8_row_33 v0 M1) else (if v2 ≤ (3 : Int32) then (if v3 ≤ (160 : Int32) then (if x_tag M1 v0 = 8 + 10 then (if x_at M1 (x_r M1 v0 6) 4 v1 = true then (if x_tag M1 (x_r M1 (x_r M1 v0 6) v1.toNatClampNeg) = 6 + 10 then (x_bv (f_X6_holdRow (x_r M1 (x_r M1 v0 6) v1.toNatClampNeg) v2 v3 M1) (fun M20 => some ((1 : Int32), M20))) else none) else none) else none) else (if x_tag M1 v0 = 8 + 10 then (x_bd (f_X8_refuse v0 (-7 : Int32) M1) (fun r25 M24 => some (r25, M24))) else none)) else (f_X8_row_33 v0 M1))) else (if x_tag M1 v0 = 8 + 10 then (x_bd (f_X8_refuse v0 (-4 : Int32) M1) (fun r29 M28 => some (r29, M28))) else none)))
set_option maxRecDepth 20000 in
set_option maxHeartbeats 4000000 in
theorem t_X8_row (l : Launch) {v0 : Nat} {v1 : Int32} {v2 : Int32} {v3 : Int32} {M : XM} {q : Int32 × XM} (H : f_X8_row v0 v1 v2 v3 M = some q) : AW l m_X8_row 3 0 0 (x_Ri q) 0 0 0 [some (.ref v0), some (.int v1), some (.int v2), some (.int v3)] [] M := by
  unfold f_X8_row at H
  refine x_iload_n 0 1 dX8_row_0 rfl rfl ?_
  obtain ⟨r2, M1, e3, H⟩ := x_bd_of H
  refine x_callS 1 87 [(.int v1)] [] dX8_row_1 (ct_X8_isShelf l e3) lk_407 lk_408 lk_85 lk_409 ⟨cn_X8_isShelf, (by decide), by decide⟩ rfl (Nat.le_of_ble_eq_true rfl) (Nat.le_of_ble_eq_true rfl) (Nat.le_of_ble_eq_true rfl) (x_ri ?_)
  refine x_if_ne 4 13 dX8_row_4 (by decide) (fun c4 => ?_) (fun c4 => ?_)
  · replace H := x_ifn c4 H
    refine x_iload_n 13 3 dX8_row_13 rfl rfl ?_
    refine x_if_ge 14 24 dX8_row_14 (by decide) (fun c9 => ?_) (fun c9 => ?_)
    · replace H := x_ifp c9 H
      refine x_iload_n 24 2 dX8_row_24 rfl rfl ?_
      refine x_if_lt 25 33 dX8_row_25 (by decide) (fun c10 => ?_) (fun c10 => ?_)
      · replace H := x_ifp c10 H
        exact x_wk (le_s (le_n (le_n (le_n le_0)))) (t_X8_row_33 l H)
      · replace H := x_ifn c10 H
        refine x_iload_n 28 2 dX8_row_28 rfl rfl ?_
        refine x_iconst 29 (3 : Int32) dX8_row_29 (by decide) ?_
        refine x_icmp_le 30 40 dX8_row_30 (by decide) (fun c15 => ?_) (fun c15 => ?_)
        · replace H := x_ifp c15 H
          refine x_iload_n 40 3 dX8_row_40 rfl rfl ?_
          refine x_sipush 41 (160 : Int32) dX8_row_41 (by decide) ?_
          refine x_icmp_le 44 54 dX8_row_44 (by decide) (fun c16 => ?_) (fun c16 => ?_)
          · replace H := x_ifp c16 H
            refine x_aload_n 54 0 dX8_row_54 rfl rfl ?_
            obtain ⟨h17, H⟩ := x_ckp H
            refine x_getf 55 37 8 6 (.ref (x_r M1 v0 6)) dX8_row_55 lk_363 (by decide) (by decide) rfl (fun _ => rfl) h17 ?_
            refine x_iload_n 58 1 dX8_row_58 rfl rfl ?_
            obtain ⟨h18, H⟩ := x_ckp H
            refine x_aald4 59 dX8_row_59 h18 ?_
            refine x_iload_n 60 2 dX8_row_60 rfl rfl ?_
            refine x_iload_n 61 3 dX8_row_61 rfl rfl ?_
            obtain ⟨h19, H⟩ := x_ckp H
            obtain ⟨M20, e22, H⟩ := x_bv_of H
            refine x_callV 62 95 6 [(.int v2), (.int v3)] [] dX8_row_62 (ct_X6_holdRow l e22) lk_414 lk_415 lk_416 (by decide) h19 lk_93 lk_417 ⟨cn_X6_holdRow, (by decide), by decide⟩ rfl (Nat.le_of_ble_eq_true rfl) (Nat.le_of_ble_eq_true rfl) (Nat.le_of_ble_eq_true rfl) (x_rv ?_)
            refine x_iconst 65 (1 : Int32) dX8_row_65 (by decide) ?_
            cases H
            exact x_iret 66 dX8_row_66 .int rfl rfl (Nat.le_of_ble_eq_true rfl) (Nat.le_of_ble_eq_true rfl) ⟨rfl, rfl⟩
          · replace H := x_ifn c16 H
            refine x_aload_n 47 0 dX8_row_47 rfl rfl ?_
            refine x_bipush 48 (-7 : Int32) dX8_row_48 (by decide) ?_
            obtain ⟨h23, H⟩ := x_ckp H
            obtain ⟨r25, M24, e26, H⟩ := x_bd_of H
            refine x_callV 50 91 8 [(.int (-7 : Int32))] [] dX8_row_50 (ct_X8_refuse l e26) lk_410 lk_412 lk_0 (by decide) h23 lk_85 lk_413 ⟨cn_X8_refuse, (by decide), by decide⟩ rfl (Nat.le_of_ble_eq_true rfl) (Nat.le_of_ble_eq_true rfl) (Nat.le_of_ble_eq_true rfl) (x_ri ?_)
            cases H
            exact x_iret 53 dX8_row_53 .int rfl rfl (Nat.le_of_ble_eq_true rfl) (Nat.le_of_ble_eq_true rfl) ⟨rfl, rfl⟩
        · replace H := x_ifn c15 H
          exact x_wk (le_s (le_n (le_n (le_n le_0)))) (t_X8_row_33 l H)
    · replace H := x_ifn c9 H
      refine x_aload_n 17 0 dX8_row_17 rfl rfl ?_
      refine x_bipush 18 (-4 : Int32) dX8_row_18 (by decide) ?_
      obtain ⟨h27, H⟩ := x_ckp H
      obtain ⟨r29, M28, e30, H⟩ := x_bd_of H
      refine x_callV 20 91 8 [(.int (-4 : Int32))] [] dX8_row_20 (ct_X8_refuse l e30) lk_410 lk_412 lk_0 (by decide) h27 lk_85 lk_413 ⟨cn_X8_refuse, (by decide), by decide⟩ rfl (Nat.le_of_ble_eq_true rfl) (Nat.le_of_ble_eq_true rfl) (Nat.le_of_ble_eq_true rfl) (x_ri ?_)
      cases H
      exact x_iret 23 dX8_row_23 .int rfl rfl (Nat.le_of_ble_eq_true rfl) (Nat.le_of_ble_eq_true rfl) ⟨rfl, rfl⟩
  · replace H := x_ifp c4 H
    refine x_aload_n 7 0 dX8_row_7 rfl rfl ?_
    refine x_iconst 8 (-1 : Int32) dX8_row_8 (by decide) ?_
    obtain ⟨h5, H⟩ := x_ckp H
    obtain ⟨r7, M6, e8, H⟩ := x_bd_of H
    refine x_callV 9 91 8 [(.int (-1 : Int32))] [] dX8_row_9 (ct_X8_refuse l e8) lk_410 lk_412 lk_0 (by decide) h5 lk_85 lk_413 ⟨cn_X8_refuse, (by decide), by decide⟩ rfl (Nat.le_of_ble_eq_true rfl) (Nat.le_of_ble_eq_true rfl) (Nat.le_of_ble_eq_true rfl) (x_ri ?_)
    cases H
    exact x_iret 12 dX8_row_12 .int rfl rfl (Nat.le_of_ble_eq_true rfl) (Nat.le_of_ble_eq_true rfl) ⟨rfl, rfl⟩

theorem ct_X8_row (l : Launch) {v0 : Nat} {v1 : Int32} {v2 : Int32} {v3 : Int32} {M : XM} {q : Int32 × XM} (H : f_X8_row v0 v1 v2 v3 M = some q) : Ct l m_X8_row 3 0 0 [(.ref v0), (.int v1), (.int v2), (.int v3)] M (x_Ri q) := x_met l m_X8_row 3 0 0 [(.ref v0), (.int v1), (.int v2), (.int v3)] M (x_Ri q) _ rfl rfl (Nat.le_of_ble_eq_true rfl) (t_X8_row l H)
theorem lk_436 : Cond.code yX6_hasCounter cX6_hasCounter 1 (some .boolean) ∈ x_TB := x_tb (k := 436) (by decide +kernel) rfl
theorem lk_433 : Cond.methodLink RX8 344 yX6_hasCounter ∈ x_TB := x_tb (k := 433) (by decide +kernel) rfl
theorem lk_435 : Cond.selects RX6 yX6_hasCounter yX6_hasCounter ∈ x_TB := x_tb (k := 435) (by decide +kernel) rfl
theorem lk_434 : Cond.instanceMethod yX6_hasCounter ∈ x_TB := x_tb (k := 434) (by decide +kernel) rfl
theorem lk_437 : Cond.methodLink RX8 142 yX6_hasRow ∈ x_TB := x_tb (k := 437) (by decide +kernel) rfl
abbrev m_X8_rowsRefusal : XU := (yX8_rowsRefusal, cX8_rowsRefusal, 3, (some .int))
theorem cn_X8_rowsRefusal : m_X8_rowsRefusal.1.cls ≠ "java/lang/invoke/MethodHandle" ∧ m_X8_rowsRefusal.1.cls ≠ "java/lang/invoke/VarHandle" ∧ (parseMethodDescriptor m_X8_rowsRefusal.1.desc).map (fun q => q.parameters.length) = some 2 := by decide +kernel
def f_X8_rowsRefusal (v0 : Nat) (v1 : Int32) (v2 : Int32) (M : XM) : Option (Int32 × XM) :=
  x_bd (f_X8_isShelf v1 M) (fun r2 M1 => if r2 = 0 then (some ((-1 : Int32), M1)) else (x_bd (f_X8_isShelf v2 M1) (fun r6 M5 => if r6 = 0 then (some ((-1 : Int32), M5)) else (if x_tag M5 v0 = 8 + 10 then (if x_at M5 (x_r M5 v0 6) 4 v1 = true then (if x_tag M5 (x_r M5 (x_r M5 v0 6) v1.toNatClampNeg) = 6 + 10 then (x_bd (f_X6_hasCounter (x_r M5 (x_r M5 v0 6) v1.toNatClampNeg) M5) (fun r13 M12 => if r13 = 0 then (if x_tag M12 v0 = 8 + 10 then (if x_at M12 (x_r M12 v0 6) 4 v2 = true then (if x_tag M12 (x_r M12 (x_r M12 v0 6) v2.toNatClampNeg) = 6 + 10 then (x_bd (f_X6_hasCounter (x_r M12 (x_r M12 v0 6) v2.toNatClampNeg) M12) (fun r20 M19 => if r20 = 0 then (if x_tag M19 v0 = 8 + 10 then (if x_at M19 (x_r M19 v0 6) 4 v1 = true then (if x_tag M19 (x_r M19 (x_r M19 v0 6) v1.toNatClampNeg) = 6 + 10 then (x_bd (f_X6_hasRow (x_r M19 (x_r M19 v0 6) v1.toNatClampNeg) M19) (fun r27 M26 => if r27 = 0 then (some ((-3 : Int32), M26)) else (if x_tag M26 v0 = 8 + 10 then (if x_at M26 (x_r M26 v0 6) 4 v2 = true then (if x_tag M26 (x_r M26 (x_r M26 v0 6) v2.toNatClampNeg) = 6 + 10 then (x_bd (f_X6_hasRow (x_r M26 (x_r M26 v0 6) v2.toNatClampNeg) M26) (fun r34 M33 => if r34 = 0 then (some ((-3 : Int32), M33)) else (some ((0 : Int32), M33)))) else none) else none) else none))) else none) else none) else none) else (some ((-2 : Int32), M19)))) else none) else none) else none) else (some ((-2 : Int32), M12)))) else none) else none) else none))))
set_option maxRecDepth 20000 in
set_option maxHeartbeats 4000000 in
theorem t_X8_rowsRefusal (l : Launch) {v0 : Nat} {v1 : Int32} {v2 : Int32} {M : XM} {q : Int32 × XM} (H : f_X8_rowsRefusal v0 v1 v2 M = some q) : AW l m_X8_rowsRefusal 2 0 0 (x_Ri q) 0 0 0 [some (.ref v0), some (.int v1), some (.int v2)] [] M := by
  unfold f_X8_rowsRefusal at H
  refine x_iload_n 0 1 dX8_rowsRefusal_0 rfl rfl ?_
  obtain ⟨r2, M1, e3, H⟩ := x_bd_of H
  refine x_callS 1 87 [(.int v1)] [] dX8_rowsRefusal_1 (ct_X8_isShelf l e3) lk_407 lk_408 lk_85 lk_409 ⟨cn_X8_isShelf, (by decide), by decide⟩ rfl (Nat.le_of_ble_eq_true rfl) (Nat.le_of_ble_eq_true rfl) (Nat.le_of_ble_eq_true rfl) (x_ri ?_)
  refine x_if_eq 4 14 dX8_rowsRefusal_4 (by decide) (fun c4 => ?_) (fun c4 => ?_)
  · replace H := x_ifp c4 H
    refine x_iconst 14 (-1 : Int32) dX8_rowsRefusal_14 (by decide) ?_
    cases H
    exact x_iret 15 dX8_rowsRefusal_15 .int rfl rfl (Nat.le_of_ble_eq_true rfl) (Nat.le_of_ble_eq_true rfl) ⟨rfl, rfl⟩
  · replace H := x_ifn c4 H
    refine x_iload_n 7 2 dX8_rowsRefusal_7 rfl rfl ?_
    obtain ⟨r6, M5, e7, H⟩ := x_bd_of H
    refine x_callS 8 87 [(.int v2)] [] dX8_rowsRefusal_8 (ct_X8_isShelf l e7) lk_407 lk_408 lk_85 lk_409 ⟨cn_X8_isShelf, (by decide), by decide⟩ rfl (Nat.le_of_ble_eq_true rfl) (Nat.le_of_ble_eq_true rfl) (Nat.le_of_ble_eq_true rfl) (x_ri ?_)
    refine x_if_ne 11 16 dX8_rowsRefusal_11 (by decide) (fun c8 => ?_) (fun c8 => ?_)
    · replace H := x_ifn c8 H
      refine x_aload_n 16 0 dX8_rowsRefusal_16 rfl rfl ?_
      obtain ⟨h9, H⟩ := x_ckp H
      refine x_getf 17 37 8 6 (.ref (x_r M5 v0 6)) dX8_rowsRefusal_17 lk_363 (by decide) (by decide) rfl (fun _ => rfl) h9 ?_
      refine x_iload_n 20 1 dX8_rowsRefusal_20 rfl rfl ?_
      obtain ⟨h10, H⟩ := x_ckp H
      refine x_aald4 21 dX8_rowsRefusal_21 h10 ?_
      obtain ⟨h11, H⟩ := x_ckp H
      obtain ⟨r13, M12, e14, H⟩ := x_bd_of H
      refine x_callV 22 344 6 [] [] dX8_rowsRefusal_22 (ct_X6_hasCounter l e14) lk_433 lk_434 lk_435 (by decide) h11 lk_93 lk_436 ⟨cn_X6_hasCounter, (by decide), by decide⟩ rfl (Nat.le_of_ble_eq_true rfl) (Nat.le_of_ble_eq_true rfl) (Nat.le_of_ble_eq_true rfl) (x_ri ?_)
      refine x_if_ne 25 40 dX8_rowsRefusal_25 (by decide) (fun c15 => ?_) (fun c15 => ?_)
      · replace H := x_ifn c15 H
        refine x_bipush 40 (-2 : Int32) dX8_rowsRefusal_40 (by decide) ?_
        cases H
        exact x_iret 42 dX8_rowsRefusal_42 .int rfl rfl (Nat.le_of_ble_eq_true rfl) (Nat.le_of_ble_eq_true rfl) ⟨rfl, rfl⟩
      · replace H := x_ifp c15 H
        refine x_aload_n 28 0 dX8_rowsRefusal_28 rfl rfl ?_
        obtain ⟨h16, H⟩ := x_ckp H
        refine x_getf 29 37 8 6 (.ref (x_r M12 v0 6)) dX8_rowsRefusal_29 lk_363 (by decide) (by decide) rfl (fun _ => rfl) h16 ?_
        refine x_iload_n 32 2 dX8_rowsRefusal_32 rfl rfl ?_
        obtain ⟨h17, H⟩ := x_ckp H
        refine x_aald4 33 dX8_rowsRefusal_33 h17 ?_
        obtain ⟨h18, H⟩ := x_ckp H
        obtain ⟨r20, M19, e21, H⟩ := x_bd_of H
        refine x_callV 34 344 6 [] [] dX8_rowsRefusal_34 (ct_X6_hasCounter l e21) lk_433 lk_434 lk_435 (by decide) h18 lk_93 lk_436 ⟨cn_X6_hasCounter, (by decide), by decide⟩ rfl (Nat.le_of_ble_eq_true rfl) (Nat.le_of_ble_eq_true rfl) (Nat.le_of_ble_eq_true rfl) (x_ri ?_)
        refine x_if_eq 37 43 dX8_rowsRefusal_37 (by decide) (fun c22 => ?_) (fun c22 => ?_)
        · replace H := x_ifp c22 H
          refine x_aload_n 43 0 dX8_rowsRefusal_43 rfl rfl ?_
          obtain ⟨h23, H⟩ := x_ckp H
          refine x_getf 44 37 8 6 (.ref (x_r M19 v0 6)) dX8_rowsRefusal_44 lk_363 (by decide) (by decide) rfl (fun _ => rfl) h23 ?_
          refine x_iload_n 47 1 dX8_rowsRefusal_47 rfl rfl ?_
          obtain ⟨h24, H⟩ := x_ckp H
          refine x_aald4 48 dX8_rowsRefusal_48 h24 ?_
          obtain ⟨h25, H⟩ := x_ckp H
          obtain ⟨r27, M26, e28, H⟩ := x_bd_of H
          refine x_callV 49 142 6 [] [] dX8_rowsRefusal_49 (ct_X6_hasRow l e28) lk_437 lk_438 lk_439 (by decide) h25 lk_93 lk_440 ⟨cn_X6_hasRow, (by decide), by decide⟩ rfl (Nat.le_of_ble_eq_true rfl) (Nat.le_of_ble_eq_true rfl) (Nat.le_of_ble_eq_true rfl) (x_ri ?_)
          refine x_if_eq 52 71 dX8_rowsRefusal_52 (by decide) (fun c29 => ?_) (fun c29 => ?_)
          · replace H := x_ifp c29 H
            refine x_bipush 71 (-3 : Int32) dX8_rowsRefusal_71 (by decide) ?_
            cases H
            exact x_iret 73 dX8_rowsRefusal_73 .int rfl rfl (Nat.le_of_ble_eq_true rfl) (Nat.le_of_ble_eq_true rfl) ⟨rfl, rfl⟩
          · replace H := x_ifn c29 H
            refine x_aload_n 55 0 dX8_rowsRefusal_55 rfl rfl ?_
            obtain ⟨h30, H⟩ := x_ckp H
            refine x_getf 56 37 8 6 (.ref (x_r M26 v0 6)) dX8_rowsRefusal_56 lk_363 (by decide) (by decide) rfl (fun _ => rfl) h30 ?_
            refine x_iload_n 59 2 dX8_rowsRefusal_59 rfl rfl ?_
            obtain ⟨h31, H⟩ := x_ckp H
            refine x_aald4 60 dX8_rowsRefusal_60 h31 ?_
            obtain ⟨h32, H⟩ := x_ckp H
            obtain ⟨r34, M33, e35, H⟩ := x_bd_of H
            refine x_callV 61 142 6 [] [] dX8_rowsRefusal_61 (ct_X6_hasRow l e35) lk_437 lk_438 lk_439 (by decide) h32 lk_93 lk_440 ⟨cn_X6_hasRow, (by decide), by decide⟩ rfl (Nat.le_of_ble_eq_true rfl) (Nat.le_of_ble_eq_true rfl) (Nat.le_of_ble_eq_true rfl) (x_ri ?_)
            refine x_if_eq 64 71 dX8_rowsRefusal_64 (by decide) (fun c36 => ?_) (fun c36 => ?_)
            · replace H := x_ifp c36 H
              refine x_bipush 71 (-3 : Int32) dX8_rowsRefusal_71 (by decide) ?_
              cases H
              exact x_iret 73 dX8_rowsRefusal_73 .int rfl rfl (Nat.le_of_ble_eq_true rfl) (Nat.le_of_ble_eq_true rfl) ⟨rfl, rfl⟩
            · replace H := x_ifn c36 H
              refine x_iconst 67 (0 : Int32) dX8_rowsRefusal_67 (by decide) ?_
              refine x_goto 68 73 dX8_rowsRefusal_68 (by decide) ?_
              cases H
              exact x_iret 73 dX8_rowsRefusal_73 .int rfl rfl (Nat.le_of_ble_eq_true rfl) (Nat.le_of_ble_eq_true rfl) ⟨rfl, rfl⟩
        · replace H := x_ifn c22 H
          refine x_bipush 40 (-2 : Int32) dX8_rowsRefusal_40 (by decide) ?_
          cases H
          exact x_iret 42 dX8_rowsRefusal_42 .int rfl rfl (Nat.le_of_ble_eq_true rfl) (Nat.le_of_ble_eq_true rfl) ⟨rfl, rfl⟩
    · replace H := x_ifp c8 H
      refine x_iconst 14 (-1 : Int32) dX8_rowsRefusal_14 (by decide) ?_
      cases H
      exact x_iret 15 dX8_rowsRefusal_15 .int rfl rfl (Nat.le_of_ble_eq_true rfl) (Nat.le_of_ble_eq_true rfl) ⟨rfl, rfl⟩

theorem ct_X8_rowsRefusal (l : Launch) {v0 : Nat} {v1 : Int32} {v2 : Int32} {M : XM} {q : Int32 × XM} (H : f_X8_rowsRefusal v0 v1 v2 M = some q) : Ct l m_X8_rowsRefusal 2 0 0 [(.ref v0), (.int v1), (.int v2)] M (x_Ri q) := x_met l m_X8_rowsRefusal 2 0 0 [(.ref v0), (.int v1), (.int v2)] M (x_Ri q) _ rfl rfl (Nat.le_of_ble_eq_true rfl) (t_X8_rowsRefusal l H)
theorem lk_432 : Cond.code yX8_rowsRefusal cX8_rowsRefusal 3 (some .int) ∈ x_TB := x_tb (k := 432) (by decide +kernel) rfl
theorem lk_429 : Cond.methodLink RX8 109 yX8_rowsRefusal ∈ x_TB := x_tb (k := 429) (by decide +kernel) rfl
theorem lk_2 : Cond.selects RX8 yX8_rowsRefusal yX8_rowsRefusal ∈ x_TB := x_tb (k := 2) (by decide +kernel) rfl
theorem lk_431 : Cond.instanceMethod yX8_rowsRefusal ∈ x_TB := x_tb (k := 431) (by decide +kernel) rfl
abbrev m_X8_rowRefusal : XU := (yX8_rowRefusal, cX8_rowRefusal, 2, (some .int))
theorem cn_X8_rowRefusal : m_X8_rowRefusal.1.cls ≠ "java/lang/invoke/MethodHandle" ∧ m_X8_rowRefusal.1.cls ≠ "java/lang/invoke/VarHandle" ∧ (parseMethodDescriptor m_X8_rowRefusal.1.desc).map (fun q => q.parameters.length) = some 1 := by decide +kernel
def f_X8_rowRefusal (v0 : Nat) (v1 : Int32) (M : XM) : Option (Int32 × XM) :=
  if x_tag M v0 = 8 + 10 then (x_bd (f_X8_rowsRefusal v0 v1 v1 M) (fun r3 M2 => some (r3, M2))) else none
set_option maxRecDepth 20000 in
set_option maxHeartbeats 4000000 in
theorem t_X8_rowRefusal (l : Launch) {v0 : Nat} {v1 : Int32} {M : XM} {q : Int32 × XM} (H : f_X8_rowRefusal v0 v1 M = some q) : AW l m_X8_rowRefusal 3 0 0 (x_Ri q) 0 0 0 [some (.ref v0), some (.int v1)] [] M := by
  unfold f_X8_rowRefusal at H
  refine x_aload_n 0 0 dX8_rowRefusal_0 rfl rfl ?_
  refine x_iload_n 1 1 dX8_rowRefusal_1 rfl rfl ?_
  refine x_iload_n 2 1 dX8_rowRefusal_2 rfl rfl ?_
  obtain ⟨h1, H⟩ := x_ckp H
  obtain ⟨r3, M2, e4, H⟩ := x_bd_of H
  refine x_callV 3 109 8 [(.int v1), (.int v1)] [] dX8_rowRefusal_3 (ct_X8_rowsRefusal l e4) lk_429 lk_431 lk_2 (by decide) h1 lk_85 lk_432 ⟨cn_X8_rowsRefusal, (by decide), by decide⟩ rfl (Nat.le_of_ble_eq_true rfl) (Nat.le_of_ble_eq_true rfl) (Nat.le_of_ble_eq_true rfl) (x_ri ?_)
  cases H
  exact x_iret 6 dX8_rowRefusal_6 .int rfl rfl (Nat.le_of_ble_eq_true rfl) (Nat.le_of_ble_eq_true rfl) ⟨rfl, rfl⟩

theorem ct_X8_rowRefusal (l : Launch) {v0 : Nat} {v1 : Int32} {M : XM} {q : Int32 × XM} (H : f_X8_rowRefusal v0 v1 M = some q) : Ct l m_X8_rowRefusal 3 0 0 [(.ref v0), (.int v1)] M (x_Ri q) := x_met l m_X8_rowRefusal 3 0 0 [(.ref v0), (.int v1)] M (x_Ri q) _ rfl rfl (Nat.le_of_ble_eq_true rfl) (t_X8_rowRefusal l H)
theorem lk_428 : Cond.code yX8_rowRefusal cX8_rowRefusal 2 (some .int) ∈ x_TB := x_tb (k := 428) (by decide +kernel) rfl
theorem lk_425 : Cond.methodLink RX8 99 yX8_rowRefusal ∈ x_TB := x_tb (k := 425) (by decide +kernel) rfl
theorem lk_1 : Cond.selects RX8 yX8_rowRefusal yX8_rowRefusal ∈ x_TB := x_tb (k := 1) (by decide +kernel) rfl
theorem lk_427 : Cond.instanceMethod yX8_rowRefusal ∈ x_TB := x_tb (k := 427) (by decide +kernel) rfl
theorem lk_441 : Cond.methodLink RX8 102 yX6_hasElement ∈ x_TB := x_tb (k := 441) (by decide +kernel) rfl
theorem lk_448 : Cond.code yX6_become cX6_become 4 none ∈ x_TB := x_tb (k := 448) (by decide +kernel) rfl
theorem lk_445 : Cond.methodLink RX8 105 yX6_become ∈ x_TB := x_tb (k := 445) (by decide +kernel) rfl
theorem lk_447 : Cond.selects RX6 yX6_become yX6_become ∈ x_TB := x_tb (k := 447) (by decide +kernel) rfl
theorem lk_446 : Cond.instanceMethod yX6_become ∈ x_TB := x_tb (k := 446) (by decide +kernel) rfl
abbrev m_X8_set : XU := (yX8_set, cX8_set, 6, (some .int))
theorem cn_X8_set : m_X8_set.1.cls ≠ "java/lang/invoke/MethodHandle" ∧ m_X8_set.1.cls ≠ "java/lang/invoke/VarHandle" ∧ (parseMethodDescriptor m_X8_set.1.desc).map (fun q => q.parameters.length) = some 3 := by decide +kernel
def f_X8_set_29 (v0 : Nat) (v1 : Int32) (v2 : Int32) (v3 : Int64) (v5 : Int32) (M : XM) : Option (Int32 × XM) :=
  if v5 = 0 then (if x_tag M v0 = 8 + 10 then (if x_at M (x_r M v0 6) 4 v1 = true then (if x_tag M (x_r M (x_r M v0 6) v1.toNatClampNeg) = 6 + 10 then (x_bv (f_X6_become (x_r M (x_r M v0 6) v1.toNatClampNeg) v2 v3 M) (fun M17 => some ((1 : Int32), M17))) else none) else none) else none) else (if x_tag M v0 = 8 + 10 then (x_bd (f_X8_refuse v0 v5 M) (fun r22 M21 => some (r22, M21))) else none)
set_option maxRecDepth 20000 in
set_option maxHeartbeats 4000000 in
theorem t_X8_set_29 (l : Launch) {v0 : Nat} {v1 : Int32} {v2 : Int32} {v3 : Int64} {v5 : Int32} {M : XM} {q : Int32 × XM} (H : f_X8_set_29 v0 v1 v2 v3 v5 M = some q) : AW l m_X8_set 4 0 0 (x_Ri q) 0 0 29 [some (.ref v0), some (.int v1), some (.int v2), some (.long v3), none, some (.int v5)] [] M := by
  unfold f_X8_set_29 at H
  refine x_iload 29 5 dX8_set_29 rfl ?_
  refine x_if_eq 31 41 dX8_set_31 (by decide) (fun c13 => ?_) (fun c13 => ?_)
  · replace H := x_ifp c13 H
    refine x_aload_n 41 0 dX8_set_41 rfl rfl ?_
    obtain ⟨h14, H⟩ := x_ckp H
    refine x_getf 42 37 8 6 (.ref (x_r M v0 6)) dX8_set_42 lk_363 (by decide) (by decide) rfl (fun _ => rfl) h14 ?_
    refine x_iload_n 45 1 dX8_set_45 rfl rfl ?_
    obtain ⟨h15, H⟩ := x_ckp H
    refine x_aald4 46 dX8_set_46 h15 ?_
    refine x_iload_n 47 2 dX8_set_47 rfl rfl ?_
    refine x_lload_n 48 3 dX8_set_48 rfl rfl ?_
    obtain ⟨h16, H⟩ := x_ckp H
    obtain ⟨M17, e19, H⟩ := x_bv_of H
    refine x_callV 49 105 6 [(.int v2), (.long v3)] [] dX8_set_49 (ct_X6_become l e19) lk_445 lk_446 lk_447 (by decide) h16 lk_93 lk_448 ⟨cn_X6_become, (by decide), by decide⟩ rfl (Nat.le_of_ble_eq_true rfl) (Nat.le_of_ble_eq_true rfl) (Nat.le_of_ble_eq_true rfl) (x_rv ?_)
    refine x_iconst 52 (1 : Int32) dX8_set_52 (by decide) ?_
    cases H
    exact x_iret 53 dX8_set_53 .int rfl rfl (Nat.le_of_ble_eq_true rfl) (Nat.le_of_ble_eq_true rfl) ⟨rfl, rfl⟩
  · replace H := x_ifn c13 H
    refine x_aload_n 34 0 dX8_set_34 rfl rfl ?_
    refine x_iload 35 5 dX8_set_35 rfl ?_
    obtain ⟨h20, H⟩ := x_ckp H
    obtain ⟨r22, M21, e23, H⟩ := x_bd_of H
    refine x_callV 37 91 8 [(.int v5)] [] dX8_set_37 (ct_X8_refuse l e23) lk_410 lk_412 lk_0 (by decide) h20 lk_85 lk_413 ⟨cn_X8_refuse, (by decide), by decide⟩ rfl (Nat.le_of_ble_eq_true rfl) (Nat.le_of_ble_eq_true rfl) (Nat.le_of_ble_eq_true rfl) (x_ri ?_)
    cases H
    exact x_iret 40 dX8_set_40 .int rfl rfl (Nat.le_of_ble_eq_true rfl) (Nat.le_of_ble_eq_true rfl) ⟨rfl, rfl⟩

def f_X8_set (v0 : Nat) (v1 : Int32) (v2 : Int32) (v3 : Int64) (M : XM) : Option (Int32 × XM) :=
  if x_tag M v0 = 8 + 10 then (x_bd (f_X8_rowRefusal v0 v1 M) (fun r3 M2 => if r3 = 0 then (if x_tag M2 v0 = 8 + 10 then (if x_at M2 (x_r M2 v0 6) 4 v1 = true then (if x_tag M2 (x_r M2 (x_r M2 v0 6) v1.toNatClampNeg) = 6 + 10 then (x_bd (f_X6_hasElement (x_r M2 (x_r M2 v0 6) v1.toNatClampNeg) v2 M2) (fun r10 M9 => if r10 = 0 then (f_X8_set_29 v0 v1 v2 v3 (-5 : Int32) M9) else (f_X8_set_29 v0 v1 v2 v3 r3 M9))) else none) else none) else none) else (f_X8_set_29 v0 v1 v2 v3 r3 M2))) else none
set_option maxRecDepth 20000 in
set_option maxHeartbeats 4000000 in
theorem t_X8_set (l : Launch) {v0 : Nat} {v1 : Int32} {v2 : Int32} {v3 : Int64} {M : XM} {q : Int32 × XM} (H : f_X8_set v0 v1 v2 v3 M = some q) : AW l m_X8_set 4 0 0 (x_Ri q) 0 0 0 [some (.ref v0), some (.int v1), some (.int v2), some (.long v3), none, none] [] M := by
  unfold f_X8_set at H
  refine x_aload_n 0 0 dX8_set_0 rfl rfl ?_
  refine x_iload_n 1 1 dX8_set_1 rfl rfl ?_
  obtain ⟨h1, H⟩ := x_ckp H
  obtain ⟨r3, M2, e4, H⟩ := x_bd_of H
  refine x_callV 2 99 8 [(.int v1)] [] dX8_set_2 (ct_X8_rowRefusal l e4) lk_425 lk_427 lk_1 (by decide) h1 lk_85 lk_428 ⟨cn_X8_rowRefusal, (by decide), by decide⟩ rfl (Nat.le_of_ble_eq_true rfl) (Nat.le_of_ble_eq_true rfl) (Nat.le_of_ble_eq_true rfl) (x_ri ?_)
  refine x_istore 5 5 [some (.ref v0), some (.int v1), some (.int v2), some (.long v3), none, some (.int r3)] dX8_set_5 rfl (Nat.le_of_ble_eq_true rfl) rfl ?_
  refine x_iload 7 5 dX8_set_7 rfl ?_
  refine x_if_ne 9 29 dX8_set_9 (by decide) (fun c5 => ?_) (fun c5 => ?_)
  · replace H := x_ifn c5 H
    exact t_X8_set_29 l H
  · replace H := x_ifp c5 H
    refine x_aload_n 12 0 dX8_set_12 rfl rfl ?_
    obtain ⟨h6, H⟩ := x_ckp H
    refine x_getf 13 37 8 6 (.ref (x_r M2 v0 6)) dX8_set_13 lk_363 (by decide) (by decide) rfl (fun _ => rfl) h6 ?_
    refine x_iload_n 16 1 dX8_set_16 rfl rfl ?_
    obtain ⟨h7, H⟩ := x_ckp H
    refine x_aald4 17 dX8_set_17 h7 ?_
    refine x_iload_n 18 2 dX8_set_18 rfl rfl ?_
    obtain ⟨h8, H⟩ := x_ckp H
    obtain ⟨r10, M9, e11, H⟩ := x_bd_of H
    refine x_callV 19 102 6 [(.int v2)] [] dX8_set_19 (ct_X6_hasElement l e11) lk_441 lk_442 lk_443 (by decide) h8 lk_93 lk_444 ⟨cn_X6_hasElement, (by decide), by decide⟩ rfl (Nat.le_of_ble_eq_true rfl) (Nat.le_of_ble_eq_true rfl) (Nat.le_of_ble_eq_true rfl) (x_ri ?_)
    refine x_if_ne 22 29 dX8_set_22 (by decide) (fun c12 => ?_) (fun c12 => ?_)
    · replace H := x_ifn c12 H
      exact t_X8_set_29 l H
    · replace H := x_ifp c12 H
      refine x_bipush 25 (-5 : Int32) dX8_set_25 (by decide) ?_
      refine x_istore 27 5 [some (.ref v0), some (.int v1), some (.int v2), some (.long v3), none, some (.int (-5 : Int32))] dX8_set_27 rfl (Nat.le_of_ble_eq_true rfl) rfl ?_
      exact t_X8_set_29 l H

theorem ct_X8_set (l : Launch) {v0 : Nat} {v1 : Int32} {v2 : Int32} {v3 : Int64} {M : XM} {q : Int32 × XM} (H : f_X8_set v0 v1 v2 v3 M = some q) : Ct l m_X8_set 4 0 0 [(.ref v0), (.int v1), (.int v2), (.long v3)] M (x_Ri q) := x_met l m_X8_set 4 0 0 [(.ref v0), (.int v1), (.int v2), (.long v3)] M (x_Ri q) _ rfl rfl (Nat.le_of_ble_eq_true rfl) (t_X8_set l H)
theorem lk_342 : Cond.fieldLink RX8 113 RX6 "sort" "I" ∈ x_TB := x_tb (k := 342) (by decide +kernel) rfl
theorem lk_454 : Cond.methodLink RX8 116 yX6_hasPart ∈ x_TB := x_tb (k := 454) (by decide +kernel) rfl
theorem lk_461 : Cond.code yX6_takePart cX6_takePart 5 none ∈ x_TB := x_tb (k := 461) (by decide +kernel) rfl
theorem lk_458 : Cond.methodLink RX8 120 yX6_takePart ∈ x_TB := x_tb (k := 458) (by decide +kernel) rfl
theorem lk_460 : Cond.selects RX6 yX6_takePart yX6_takePart ∈ x_TB := x_tb (k := 460) (by decide +kernel) rfl
theorem lk_459 : Cond.instanceMethod yX6_takePart ∈ x_TB := x_tb (k := 459) (by decide +kernel) rfl
abbrev m_X8_copy : XU := (yX8_copy, cX8_copy, 7, (some .int))
theorem cn_X8_copy : m_X8_copy.1.cls ≠ "java/lang/invoke/MethodHandle" ∧ m_X8_copy.1.cls ≠ "java/lang/invoke/VarHandle" ∧ (parseMethodDescriptor m_X8_copy.1.desc).map (fun q => q.parameters.length) = some 5 := by decide +kernel
def f_X8_copy_92 (v0 : Nat) (v1 : Int32) (v2 : Int32) (v3 : Int32) (v4 : Int32) (v5 : Int32) (v6 : Int32) (M : XM) : Option (Int32 × XM) :=
  if v6 = 0 then (if x_tag M v0 = 8 + 10 then (if x_at M (x_r M v0 6) 4 v2 = true then (if x_at M (x_r M v0 6) 4 v1 = true then (if x_tag M (x_r M (x_r M v0 6) v2.toNatClampNeg) = 6 + 10 then (x_bv (f_X6_takePart (x_r M (x_r M v0 6) v2.toNatClampNeg) (x_r M (x_r M v0 6) v1.toNatClampNeg) v3 v4 v5 M) (fun M27 => some ((1 : Int32), M27))) else none) else none) else none) else none) else (if x_tag M v0 = 8 + 10 then (x_bd (f_X8_refuse v0 v6 M) (fun r32 M31 => some (r32, M31))) else none)
set_option maxRecDepth 20000 in
set_option maxHeartbeats 4000000 in
theorem t_X8_copy_92 (l : Launch) {v0 : Nat} {v1 : Int32} {v2 : Int32} {v3 : Int32} {v4 : Int32} {v5 : Int32} {v6 : Int32} {M : XM} {q : Int32 × XM} (H : f_X8_copy_92 v0 v1 v2 v3 v4 v5 v6 M = some q) : AW l m_X8_copy 3 0 0 (x_Ri q) 0 0 92 [some (.ref v0), some (.int v1), some (.int v2), some (.int v3), some (.int v4), some (.int v5), some (.int v6)] [] M := by
  unfold f_X8_copy_92 at H
  refine x_iload 92 6 dX8_copy_92 rfl ?_
  refine x_if_eq 94 104 dX8_copy_94 (by decide) (fun c22 => ?_) (fun c22 => ?_)
  · replace H := x_ifp c22 H
    refine x_aload_n 104 0 dX8_copy_104 rfl rfl ?_
    obtain ⟨h23, H⟩ := x_ckp H
    refine x_getf 105 37 8 6 (.ref (x_r M v0 6)) dX8_copy_105 lk_363 (by decide) (by decide) rfl (fun _ => rfl) h23 ?_
    refine x_iload_n 108 2 dX8_copy_108 rfl rfl ?_
    obtain ⟨h24, H⟩ := x_ckp H
    refine x_aald4 109 dX8_copy_109 h24 ?_
    refine x_aload_n 110 0 dX8_copy_110 rfl rfl ?_
    refine x_getf 111 37 8 6 (.ref (x_r M v0 6)) dX8_copy_111 lk_363 (by decide) (by decide) rfl (fun _ => rfl) h23 ?_
    refine x_iload_n 114 1 dX8_copy_114 rfl rfl ?_
    obtain ⟨h25, H⟩ := x_ckp H
    refine x_aald4 115 dX8_copy_115 h25 ?_
    refine x_iload_n 116 3 dX8_copy_116 rfl rfl ?_
    refine x_iload 117 4 dX8_copy_117 rfl ?_
    refine x_iload 119 5 dX8_copy_119 rfl ?_
    obtain ⟨h26, H⟩ := x_ckp H
    obtain ⟨M27, e29, H⟩ := x_bv_of H
    refine x_callV 121 120 6 [(.ref (x_r M (x_r M v0 6) v1.toNatClampNeg)), (.int v3), (.int v4), (.int v5)] [] dX8_copy_121 (ct_X6_takePart l e29) lk_458 lk_459 lk_460 (by decide) h26 lk_93 lk_461 ⟨cn_X6_takePart, (by decide), by decide⟩ rfl (Nat.le_of_ble_eq_true rfl) (Nat.le_of_ble_eq_true rfl) (Nat.le_of_ble_eq_true rfl) (x_rv ?_)
    refine x_iconst 124 (1 : Int32) dX8_copy_124 (by decide) ?_
    cases H
    exact x_iret 125 dX8_copy_125 .int rfl rfl (Nat.le_of_ble_eq_true rfl) (Nat.le_of_ble_eq_true rfl) ⟨rfl, rfl⟩
  · replace H := x_ifn c22 H
    refine x_aload_n 97 0 dX8_copy_97 rfl rfl ?_
    refine x_iload 98 6 dX8_copy_98 rfl ?_
    obtain ⟨h30, H⟩ := x_ckp H
    obtain ⟨r32, M31, e33, H⟩ := x_bd_of H
    refine x_callV 100 91 8 [(.int v6)] [] dX8_copy_100 (ct_X8_refuse l e33) lk_410 lk_412 lk_0 (by decide) h30 lk_85 lk_413 ⟨cn_X8_refuse, (by decide), by decide⟩ rfl (Nat.le_of_ble_eq_true rfl) (Nat.le_of_ble_eq_true rfl) (Nat.le_of_ble_eq_true rfl) (x_ri ?_)
    cases H
    exact x_iret 103 dX8_copy_103 .int rfl rfl (Nat.le_of_ble_eq_true rfl) (Nat.le_of_ble_eq_true rfl) ⟨rfl, rfl⟩

def f_X8_copy_88 (v0 : Nat) (v1 : Int32) (v2 : Int32) (v3 : Int32) (v4 : Int32) (v5 : Int32) (M : XM) : Option (Int32 × XM) :=
  f_X8_copy_92 v0 v1 v2 v3 v4 v5 (-5 : Int32) M
set_option maxRecDepth 20000 in
set_option maxHeartbeats 4000000 in
theorem t_X8_copy_88 (l : Launch) {v0 : Nat} {v1 : Int32} {v2 : Int32} {v3 : Int32} {v4 : Int32} {v5 : Int32} {M : XM} {q : Int32 × XM} (H : f_X8_copy_88 v0 v1 v2 v3 v4 v5 M = some q) : AW l m_X8_copy 3 0 0 (x_Ri q) 0 0 88 [some (.ref v0), some (.int v1), some (.int v2), some (.int v3), some (.int v4), some (.int v5), none] [] M := by
  unfold f_X8_copy_88 at H
  refine x_bipush 88 (-5 : Int32) dX8_copy_88 (by decide) ?_
  refine x_istore 90 6 [some (.ref v0), some (.int v1), some (.int v2), some (.int v3), some (.int v4), some (.int v5), some (.int (-5 : Int32))] dX8_copy_90 rfl (Nat.le_of_ble_eq_true rfl) rfl ?_
  exact t_X8_copy_92 l H

def f_X8_copy_52 (v0 : Nat) (v1 : Int32) (v2 : Int32) (v3 : Int32) (v4 : Int32) (v5 : Int32) (v6 : Int32) (M : XM) : Option (Int32 × XM) :=
  if v6 = 0 then (if x_tag M v0 = 8 + 10 then (if x_at M (x_r M v0 6) 4 v1 = true then (if x_tag M (x_r M (x_r M v0 6) v1.toNatClampNeg) = 6 + 10 then (x_bd (f_X6_hasPart (x_r M (x_r M v0 6) v1.toNatClampNeg) v3 v5 M) (fun r19 M18 => if r19 = 0 then (f_X8_copy_88 v0 v1 v2 v3 v4 v5 M18) else (if x_tag M18 v0 = 8 + 10 then (if x_at M18 (x_r M18 v0 6) 4 v2 = true then (if x_tag M18 (x_r M18 (x_r M18 v0 6) v2.toNatClampNeg) = 6 + 10 then (x_bd (f_X6_hasPart (x_r M18 (x_r M18 v0 6) v2.toNatClampNeg) v4 v5 M18) (fun r38 M37 => if r38 = 0 then (f_X8_copy_88 v0 v1 v2 v3 v4 v5 M37) else (f_X8_copy_92 v0 v1 v2 v3 v4 v5 v6 M37))) else none) else none) else none))) else none) else none) else none) else (f_X8_copy_92 v0 v1 v2 v3 v4 v5 v6 M)
set_option maxRecDepth 20000 in
set_option maxHeartbeats 4000000 in
theorem t_X8_copy_52 (l : Launch) {v0 : Nat} {v1 : Int32} {v2 : Int32} {v3 : Int32} {v4 : Int32} {v5 : Int32} {v6 : Int32} {M : XM} {q : Int32 × XM} (H : f_X8_copy_52 v0 v1 v2 v3 v4 v5 v6 M = some q) : AW l m_X8_copy 3 0 0 (x_Ri q) 0 0 52 [some (.ref v0), some (.int v1), some (.int v2), some (.int v3), some (.int v4), some (.int v5), some (.int v6)] [] M := by
  unfold f_X8_copy_52 at H
  refine x_iload 52 6 dX8_copy_52 rfl ?_
  refine x_if_ne 54 92 dX8_copy_54 (by decide) (fun c14 => ?_) (fun c14 => ?_)
  · replace H := x_ifn c14 H
    exact t_X8_copy_92 l H
  · replace H := x_ifp c14 H
    refine x_aload_n 57 0 dX8_copy_57 rfl rfl ?_
    obtain ⟨h15, H⟩ := x_ckp H
    refine x_getf 58 37 8 6 (.ref (x_r M v0 6)) dX8_copy_58 lk_363 (by decide) (by decide) rfl (fun _ => rfl) h15 ?_
    refine x_iload_n 61 1 dX8_copy_61 rfl rfl ?_
    obtain ⟨h16, H⟩ := x_ckp H
    refine x_aald4 62 dX8_copy_62 h16 ?_
    refine x_iload_n 63 3 dX8_copy_63 rfl rfl ?_
    refine x_iload 64 5 dX8_copy_64 rfl ?_
    obtain ⟨h17, H⟩ := x_ckp H
    obtain ⟨r19, M18, e20, H⟩ := x_bd_of H
    refine x_callV 66 116 6 [(.int v3), (.int v5)] [] dX8_copy_66 (ct_X6_hasPart l e20) lk_454 lk_455 lk_456 (by decide) h17 lk_93 lk_457 ⟨cn_X6_hasPart, (by decide), by decide⟩ rfl (Nat.le_of_ble_eq_true rfl) (Nat.le_of_ble_eq_true rfl) (Nat.le_of_ble_eq_true rfl) (x_ri ?_)
    refine x_if_eq 69 88 dX8_copy_69 (by decide) (fun c21 => ?_) (fun c21 => ?_)
    · replace H := x_ifp c21 H
      exact x_wk (le_s (le_s (le_s (le_s (le_s (le_s (le_n le_0))))))) (t_X8_copy_88 l H)
    · replace H := x_ifn c21 H
      refine x_aload_n 72 0 dX8_copy_72 rfl rfl ?_
      obtain ⟨h34, H⟩ := x_ckp H
      refine x_getf 73 37 8 6 (.ref (x_r M18 v0 6)) dX8_copy_73 lk_363 (by decide) (by decide) rfl (fun _ => rfl) h34 ?_
      refine x_iload_n 76 2 dX8_copy_76 rfl rfl ?_
      obtain ⟨h35, H⟩ := x_ckp H
      refine x_aald4 77 dX8_copy_77 h35 ?_
      refine x_iload 78 4 dX8_copy_78 rfl ?_
      refine x_iload 80 5 dX8_copy_80 rfl ?_
      obtain ⟨h36, H⟩ := x_ckp H
      obtain ⟨r38, M37, e39, H⟩ := x_bd_of H
      refine x_callV 82 116 6 [(.int v4), (.int v5)] [] dX8_copy_82 (ct_X6_hasPart l e39) lk_454 lk_455 lk_456 (by decide) h36 lk_93 lk_457 ⟨cn_X6_hasPart, (by decide), by decide⟩ rfl (Nat.le_of_ble_eq_true rfl) (Nat.le_of_ble_eq_true rfl) (Nat.le_of_ble_eq_true rfl) (x_ri ?_)
      refine x_if_ne 85 92 dX8_copy_85 (by decide) (fun c40 => ?_) (fun c40 => ?_)
      · replace H := x_ifn c40 H
        exact t_X8_copy_92 l H
      · replace H := x_ifp c40 H
        exact x_wk (le_s (le_s (le_s (le_s (le_s (le_s (le_n le_0))))))) (t_X8_copy_88 l H)

def f_X8_copy_38 (v0 : Nat) (v1 : Int32) (v2 : Int32) (v3 : Int32) (v4 : Int32) (v5 : Int32) (v6 : Int32) (M : XM) : Option (Int32 × XM) :=
  if v6 = 0 then (if (0 : Int32) ≤ v5 then (f_X8_copy_52 v0 v1 v2 v3 v4 v5 v6 M) else (f_X8_copy_52 v0 v1 v2 v3 v4 v5 (-4 : Int32) M)) else (f_X8_copy_52 v0 v1 v2 v3 v4 v5 v6 M)
set_option maxRecDepth 20000 in
set_option maxHeartbeats 4000000 in
theorem t_X8_copy_38 (l : Launch) {v0 : Nat} {v1 : Int32} {v2 : Int32} {v3 : Int32} {v4 : Int32} {v5 : Int32} {v6 : Int32} {M : XM} {q : Int32 × XM} (H : f_X8_copy_38 v0 v1 v2 v3 v4 v5 v6 M = some q) : AW l m_X8_copy 3 0 0 (x_Ri q) 0 0 38 [some (.ref v0), some (.int v1), some (.int v2), some (.int v3), some (.int v4), some (.int v5), some (.int v6)] [] M := by
  unfold f_X8_copy_38 at H
  refine x_iload 38 6 dX8_copy_38 rfl ?_
  refine x_if_ne 40 52 dX8_copy_40 (by decide) (fun c12 => ?_) (fun c12 => ?_)
  · replace H := x_ifn c12 H
    exact t_X8_copy_52 l H
  · replace H := x_ifp c12 H
    refine x_iload 43 5 dX8_copy_43 rfl ?_
    refine x_if_ge 45 52 dX8_copy_45 (by decide) (fun c13 => ?_) (fun c13 => ?_)
    · replace H := x_ifp c13 H
      exact t_X8_copy_52 l H
    · replace H := x_ifn c13 H
      refine x_bipush 48 (-4 : Int32) dX8_copy_48 (by decide) ?_
      refine x_istore 50 6 [some (.ref v0), some (.int v1), some (.int v2), some (.int v3), some (.int v4), some (.int v5), some (.int (-4 : Int32))] dX8_copy_50 rfl (Nat.le_of_ble_eq_true rfl) rfl ?_
      exact t_X8_copy_52 l H

def f_X8_copy (v0 : Nat) (v1 : Int32) (v2 : Int32) (v3 : Int32) (v4 : Int32) (v5 : Int32) (M : XM) : Option (Int32 × XM) :=
  if x_tag M v0 = 8 + 10 then (x_bd (f_X8_rowsRefusal v0 v1 v2 M) (fun r3 M2 => if r3 = 0 then (if x_tag M2 v0 = 8 + 10 then (if x_at M2 (x_r M2 v0 6) 4 v1 = true then (if x_tag M2 (x_r M2 (x_r M2 v0 6) v1.toNatClampNeg) = 6 + 10 then (if x_at M2 (x_r M2 v0 6) 4 v2 = true then (if x_tag M2 (x_r M2 (x_r M2 v0 6) v2.toNatClampNeg) = 6 + 10 then (if (x_i M2 (x_r M2 (x_r M2 v0 6) v1.toNatClampNeg) 1) = (x_i M2 (x_r M2 (x_r M2 v0 6) v2.toNatClampNeg) 1) then (f_X8_copy_38 v0 v1 v2 v3 v4 v5 r3 M2) else (f_X8_copy_38 v0 v1 v2 v3 v4 v5 (-2 : Int32) M2)) else none) else none) else none) else none) else none) else (f_X8_copy_38 v0 v1 v2 v3 v4 v5 r3 M2))) else none
set_option maxRecDepth 20000 in
set_option maxHeartbeats 4000000 in
theorem t_X8_copy (l : Launch) {v0 : Nat} {v1 : Int32} {v2 : Int32} {v3 : Int32} {v4 : Int32} {v5 : Int32} {M : XM} {q : Int32 × XM} (H : f_X8_copy v0 v1 v2 v3 v4 v5 M = some q) : AW l m_X8_copy 3 0 0 (x_Ri q) 0 0 0 [some (.ref v0), some (.int v1), some (.int v2), some (.int v3), some (.int v4), some (.int v5), none] [] M := by
  unfold f_X8_copy at H
  refine x_aload_n 0 0 dX8_copy_0 rfl rfl ?_
  refine x_iload_n 1 1 dX8_copy_1 rfl rfl ?_
  refine x_iload_n 2 2 dX8_copy_2 rfl rfl ?_
  obtain ⟨h1, H⟩ := x_ckp H
  obtain ⟨r3, M2, e4, H⟩ := x_bd_of H
  refine x_callV 3 109 8 [(.int v1), (.int v2)] [] dX8_copy_3 (ct_X8_rowsRefusal l e4) lk_429 lk_431 lk_2 (by decide) h1 lk_85 lk_432 ⟨cn_X8_rowsRefusal, (by decide), by decide⟩ rfl (Nat.le_of_ble_eq_true rfl) (Nat.le_of_ble_eq_true rfl) (Nat.le_of_ble_eq_true rfl) (x_ri ?_)
  refine x_istore 6 6 [some (.ref v0), some (.int v1), some (.int v2), some (.int v3), some (.int v4), some (.int v5), some (.int r3)] dX8_copy_6 rfl (Nat.le_of_ble_eq_true rfl) rfl ?_
  refine x_iload 8 6 dX8_copy_8 rfl ?_
  refine x_if_ne 10 38 dX8_copy_10 (by decide) (fun c5 => ?_) (fun c5 => ?_)
  · replace H := x_ifn c5 H
    exact t_X8_copy_38 l H
  · replace H := x_ifp c5 H
    refine x_aload_n 13 0 dX8_copy_13 rfl rfl ?_
    obtain ⟨h6, H⟩ := x_ckp H
    refine x_getf 14 37 8 6 (.ref (x_r M2 v0 6)) dX8_copy_14 lk_363 (by decide) (by decide) rfl (fun _ => rfl) h6 ?_
    refine x_iload_n 17 1 dX8_copy_17 rfl rfl ?_
    obtain ⟨h7, H⟩ := x_ckp H
    refine x_aald4 18 dX8_copy_18 h7 ?_
    obtain ⟨h8, H⟩ := x_ckp H
    refine x_getf 19 113 6 1 (.int (x_i M2 (x_r M2 (x_r M2 v0 6) v1.toNatClampNeg) 1)) dX8_copy_19 lk_342 (by decide) (by decide) rfl (fun _ => rfl) h8 ?_
    refine x_aload_n 22 0 dX8_copy_22 rfl rfl ?_
    refine x_getf 23 37 8 6 (.ref (x_r M2 v0 6)) dX8_copy_23 lk_363 (by decide) (by decide) rfl (fun _ => rfl) h6 ?_
    refine x_iload_n 26 2 dX8_copy_26 rfl rfl ?_
    obtain ⟨h9, H⟩ := x_ckp H
    refine x_aald4 27 dX8_copy_27 h9 ?_
    obtain ⟨h10, H⟩ := x_ckp H
    refine x_getf 28 113 6 1 (.int (x_i M2 (x_r M2 (x_r M2 v0 6) v2.toNatClampNeg) 1)) dX8_copy_28 lk_342 (by decide) (by decide) rfl (fun _ => rfl) h10 ?_
    refine x_icmp_eq 31 38 dX8_copy_31 (by decide) (fun c11 => ?_) (fun c11 => ?_)
    · replace H := x_ifp c11 H
      exact t_X8_copy_38 l H
    · replace H := x_ifn c11 H
      refine x_bipush 34 (-2 : Int32) dX8_copy_34 (by decide) ?_
      refine x_istore 36 6 [some (.ref v0), some (.int v1), some (.int v2), some (.int v3), some (.int v4), some (.int v5), some (.int (-2 : Int32))] dX8_copy_36 rfl (Nat.le_of_ble_eq_true rfl) rfl ?_
      exact t_X8_copy_38 l H

theorem ct_X8_copy (l : Launch) {v0 : Nat} {v1 : Int32} {v2 : Int32} {v3 : Int32} {v4 : Int32} {v5 : Int32} {M : XM} {q : Int32 × XM} (H : f_X8_copy v0 v1 v2 v3 v4 v5 M = some q) : Ct l m_X8_copy 3 0 0 [(.ref v0), (.int v1), (.int v2), (.int v3), (.int v4), (.int v5)] M (x_Ri q) := x_met l m_X8_copy 3 0 0 [(.ref v0), (.int v1), (.int v2), (.int v3), (.int v4), (.int v5)] M (x_Ri q) _ rfl rfl (Nat.le_of_ble_eq_true rfl) (t_X8_copy l H)
theorem lk_470 : Cond.methodLink RX8 124 yX6_elementAt ∈ x_TB := x_tb (k := 470) (by decide +kernel) rfl
abbrev m_X8_element : XU := (yX8_element, cX8_element, 3, (some .long))
theorem cn_X8_element : m_X8_element.1.cls ≠ "java/lang/invoke/MethodHandle" ∧ m_X8_element.1.cls ≠ "java/lang/invoke/VarHandle" ∧ (parseMethodDescriptor m_X8_element.1.desc).map (fun q => q.parameters.length) = some 2 := by decide +kernel
def f_X8_element (v0 : Nat) (v1 : Int32) (v2 : Int32) (M : XM) : Option (Int64 × XM) :=
  x_bd (f_X8_isShelf v1 M) (fun r2 M1 => if r2 = 0 then (some ((0 : Int64), M1)) else (if x_tag M1 v0 = 8 + 10 then (if x_at M1 (x_r M1 v0 6) 4 v1 = true then (if x_tag M1 (x_r M1 (x_r M1 v0 6) v1.toNatClampNeg) = 6 + 10 then (x_bd (f_X6_elementAt (x_r M1 (x_r M1 v0 6) v1.toNatClampNeg) v2 M1) (fun r9 M8 => some (r9, M8))) else none) else none) else none))
set_option maxRecDepth 20000 in
set_option maxHeartbeats 4000000 in
theorem t_X8_element (l : Launch) {v0 : Nat} {v1 : Int32} {v2 : Int32} {M : XM} {q : Int64 × XM} (H : f_X8_element v0 v1 v2 M = some q) : AW l m_X8_element 3 0 0 (x_Rl q) 0 0 0 [some (.ref v0), some (.int v1), some (.int v2)] [] M := by
  unfold f_X8_element at H
  refine x_iload_n 0 1 dX8_element_0 rfl rfl ?_
  obtain ⟨r2, M1, e3, H⟩ := x_bd_of H
  refine x_callS 1 87 [(.int v1)] [] dX8_element_1 (ct_X8_isShelf l e3) lk_407 lk_408 lk_85 lk_409 ⟨cn_X8_isShelf, (by decide), by decide⟩ rfl (Nat.le_of_ble_eq_true rfl) (Nat.le_of_ble_eq_true rfl) (Nat.le_of_ble_eq_true rfl) (x_ri ?_)
  refine x_if_eq 4 20 dX8_element_4 (by decide) (fun c4 => ?_) (fun c4 => ?_)
  · replace H := x_ifp c4 H
    refine x_lconst 20 (0 : Int64) dX8_element_20 (by decide) ?_
    cases H
    exact x_lret 21 dX8_element_21 rfl (Nat.le_of_ble_eq_true rfl) (Nat.le_of_ble_eq_true rfl) ⟨rfl, rfl⟩
  · replace H := x_ifn c4 H
    refine x_aload_n 7 0 dX8_element_7 rfl rfl ?_
    obtain ⟨h5, H⟩ := x_ckp H
    refine x_getf 8 37 8 6 (.ref (x_r M1 v0 6)) dX8_element_8 lk_363 (by decide) (by decide) rfl (fun _ => rfl) h5 ?_
    refine x_iload_n 11 1 dX8_element_11 rfl rfl ?_
    obtain ⟨h6, H⟩ := x_ckp H
    refine x_aald4 12 dX8_element_12 h6 ?_
    refine x_iload_n 13 2 dX8_element_13 rfl rfl ?_
    obtain ⟨h7, H⟩ := x_ckp H
    obtain ⟨r9, M8, e10, H⟩ := x_bd_of H
    refine x_callV 14 124 6 [(.int v2)] [] dX8_element_14 (ct_X6_elementAt l e10) lk_470 lk_471 lk_472 (by decide) h7 lk_93 lk_473 ⟨cn_X6_elementAt, (by decide), by decide⟩ rfl (Nat.le_of_ble_eq_true rfl) (Nat.le_of_ble_eq_true rfl) (Nat.le_of_ble_eq_true rfl) (x_rl ?_)
    refine x_goto 17 21 dX8_element_17 (by decide) ?_
    cases H
    exact x_lret 21 dX8_element_21 rfl (Nat.le_of_ble_eq_true rfl) (Nat.le_of_ble_eq_true rfl) ⟨rfl, rfl⟩

theorem ct_X8_element (l : Launch) {v0 : Nat} {v1 : Int32} {v2 : Int32} {M : XM} {q : Int64 × XM} (H : f_X8_element v0 v1 v2 M = some q) : Ct l m_X8_element 3 0 0 [(.ref v0), (.int v1), (.int v2)] M (x_Rl q) := x_met l m_X8_element 3 0 0 [(.ref v0), (.int v1), (.int v2)] M (x_Rl q) _ rfl rfl (Nat.le_of_ble_eq_true rfl) (t_X8_element l H)
theorem lk_485 : Cond.code yX6_holdCounter cX6_holdCounter 2 none ∈ x_TB := x_tb (k := 485) (by decide +kernel) rfl
theorem lk_482 : Cond.methodLink RX8 131 yX6_holdCounter ∈ x_TB := x_tb (k := 482) (by decide +kernel) rfl
theorem lk_484 : Cond.selects RX6 yX6_holdCounter yX6_holdCounter ∈ x_TB := x_tb (k := 484) (by decide +kernel) rfl
theorem lk_483 : Cond.instanceMethod yX6_holdCounter ∈ x_TB := x_tb (k := 483) (by decide +kernel) rfl
theorem lk_161 : Cond.fieldLink RX8 274 RX4 "count" "I" ∈ x_TB := x_tb (k := 161) (by decide +kernel) rfl
abbrev m_X8_isCounter : XU := (yX8_isCounter, cX8_isCounter, 2, (some .boolean))
theorem cn_X8_isCounter : m_X8_isCounter.1.cls ≠ "java/lang/invoke/MethodHandle" ∧ m_X8_isCounter.1.cls ≠ "java/lang/invoke/VarHandle" ∧ (parseMethodDescriptor m_X8_isCounter.1.desc).map (fun q => q.parameters.length) = some 1 := by decide +kernel
def f_X8_isCounter (v0 : Nat) (v1 : Int32) (M : XM) : Option (Int32 × XM) :=
  if v1 < 0 then (some ((0 : Int32), M)) else (if x_tag M v0 = 8 + 10 then (if x_tag M (x_r M v0 0) = 4 + 10 then (if (x_i M (x_r M v0 0) 1) ≤ v1 then (some ((0 : Int32), M)) else (some ((1 : Int32), M))) else none) else none)
set_option maxRecDepth 20000 in
set_option maxHeartbeats 4000000 in
theorem t_X8_isCounter (l : Launch) {v0 : Nat} {v1 : Int32} {M : XM} {q : Int32 × XM} (H : f_X8_isCounter v0 v1 M = some q) : AW l m_X8_isCounter 1 0 0 (x_Ri q) 0 0 0 [some (.ref v0), some (.int v1)] [] M := by
  unfold f_X8_isCounter at H
  refine x_iload_n 0 1 dX8_isCounter_0 rfl rfl ?_
  refine x_if_lt 1 19 dX8_isCounter_1 (by decide) (fun c1 => ?_) (fun c1 => ?_)
  · replace H := x_ifp c1 H
    refine x_iconst 19 (0 : Int32) dX8_isCounter_19 (by decide) ?_
    cases H
    exact x_iret 20 dX8_isCounter_20 .boolean rfl rfl (Nat.le_of_ble_eq_true rfl) (Nat.le_of_ble_eq_true rfl) ⟨rfl, rfl⟩
  · replace H := x_ifn c1 H
    refine x_iload_n 4 1 dX8_isCounter_4 rfl rfl ?_
    refine x_aload_n 5 0 dX8_isCounter_5 rfl rfl ?_
    obtain ⟨h2, H⟩ := x_ckp H
    refine x_getf 6 10 8 0 (.ref (x_r M v0 0)) dX8_isCounter_6 lk_357 (by decide) (by decide) rfl (fun _ => rfl) h2 ?_
    obtain ⟨h3, H⟩ := x_ckp H
    refine x_getf 9 274 4 1 (.int (x_i M (x_r M v0 0) 1)) dX8_isCounter_9 lk_161 (by decide) (by decide) rfl (fun _ => rfl) h3 ?_
    refine x_icmp_ge 12 19 dX8_isCounter_12 (by decide) (fun c4 => ?_) (fun c4 => ?_)
    · replace H := x_ifp c4 H
      refine x_iconst 19 (0 : Int32) dX8_isCounter_19 (by decide) ?_
      cases H
      exact x_iret 20 dX8_isCounter_20 .boolean rfl rfl (Nat.le_of_ble_eq_true rfl) (Nat.le_of_ble_eq_true rfl) ⟨rfl, rfl⟩
    · replace H := x_ifn c4 H
      refine x_iconst 15 (1 : Int32) dX8_isCounter_15 (by decide) ?_
      refine x_goto 16 20 dX8_isCounter_16 (by decide) ?_
      cases H
      exact x_iret 20 dX8_isCounter_20 .boolean rfl rfl (Nat.le_of_ble_eq_true rfl) (Nat.le_of_ble_eq_true rfl) ⟨rfl, rfl⟩

theorem ct_X8_isCounter (l : Launch) {v0 : Nat} {v1 : Int32} {M : XM} {q : Int32 × XM} (H : f_X8_isCounter v0 v1 M = some q) : Ct l m_X8_isCounter 1 0 0 [(.ref v0), (.int v1)] M (x_Ri q) := x_met l m_X8_isCounter 1 0 0 [(.ref v0), (.int v1)] M (x_Ri q) _ rfl rfl (Nat.le_of_ble_eq_true rfl) (t_X8_isCounter l H)
theorem lk_481 : Cond.code yX8_isCounter cX8_isCounter 2 (some .boolean) ∈ x_TB := x_tb (k := 481) (by decide +kernel) rfl
theorem lk_478 : Cond.methodLink RX8 128 yX8_isCounter ∈ x_TB := x_tb (k := 478) (by decide +kernel) rfl
theorem lk_3 : Cond.selects RX8 yX8_isCounter yX8_isCounter ∈ x_TB := x_tb (k := 3) (by decide +kernel) rfl
theorem lk_480 : Cond.instanceMethod yX8_isCounter ∈ x_TB := x_tb (k := 480) (by decide +kernel) rfl
abbrev m_X8_show : XU := (yX8_show, cX8_show, 3, (some .int))
theorem cn_X8_show : m_X8_show.1.cls ≠ "java/lang/invoke/MethodHandle" ∧ m_X8_show.1.cls ≠ "java/lang/invoke/VarHandle" ∧ (parseMethodDescriptor m_X8_show.1.desc).map (fun q => q.parameters.length) = some 2 := by decide +kernel
def f_X8_show_20 (v0 : Nat) (M : XM) : Option (Int32 × XM) :=
  if x_tag M v0 = 8 + 10 then (x_bd (f_X8_refuse v0 (-1 : Int32) M) (fun r7 M6 => some (r7, M6))) else none
set_option maxRecDepth 20000 in
set_option maxHeartbeats 4000000 in
theorem t_X8_show_20 (l : Launch) {v0 : Nat} {M : XM} {q : Int32 × XM} (H : f_X8_show_20 v0 M = some q) : AW l m_X8_show 2 0 0 (x_Ri q) 0 0 20 [some (.ref v0), none, none] [] M := by
  unfold f_X8_show_20 at H
  refine x_aload_n 20 0 dX8_show_20 rfl rfl ?_
  refine x_iconst 21 (-1 : Int32) dX8_show_21 (by decide) ?_
  obtain ⟨h5, H⟩ := x_ckp H
  obtain ⟨r7, M6, e8, H⟩ := x_bd_of H
  refine x_callV 22 91 8 [(.int (-1 : Int32))] [] dX8_show_22 (ct_X8_refuse l e8) lk_410 lk_412 lk_0 (by decide) h5 lk_85 lk_413 ⟨cn_X8_refuse, (by decide), by decide⟩ rfl (Nat.le_of_ble_eq_true rfl) (Nat.le_of_ble_eq_true rfl) (Nat.le_of_ble_eq_true rfl) (x_ri ?_)
  cases H
  exact x_iret 25 dX8_show_25 .int rfl rfl (Nat.le_of_ble_eq_true rfl) (Nat.le_of_ble_eq_true rfl) ⟨rfl, rfl⟩

def f_X8_show_26 (v0 : Nat) (v1 : Int32) (v2 : Int32) (M : XM) : Option (Int32 × XM) :=
  if x_tag M v0 = 8 + 10 then (if x_at M (x_r M v0 6) 4 v1 = true then (if x_tag M (x_r M (x_r M v0 6) v1.toNatClampNeg) = 6 + 10 then (x_bv (f_X6_holdCounter (x_r M (x_r M v0 6) v1.toNatClampNeg) v2 M) (fun M13 => if v2 = (-1 : Int32) then (some ((0 : Int32), M13)) else (some ((1 : Int32), M13)))) else none) else none) else none
set_option maxRecDepth 20000 in
set_option maxHeartbeats 4000000 in
theorem t_X8_show_26 (l : Launch) {v0 : Nat} {v1 : Int32} {v2 : Int32} {M : XM} {q : Int32 × XM} (H : f_X8_show_26 v0 v1 v2 M = some q) : AW l m_X8_show 2 0 0 (x_Ri q) 0 0 26 [some (.ref v0), some (.int v1), some (.int v2)] [] M := by
  unfold f_X8_show_26 at H
  refine x_aload_n 26 0 dX8_show_26 rfl rfl ?_
  obtain ⟨h10, H⟩ := x_ckp H
  refine x_getf 27 37 8 6 (.ref (x_r M v0 6)) dX8_show_27 lk_363 (by decide) (by decide) rfl (fun _ => rfl) h10 ?_
  refine x_iload_n 30 1 dX8_show_30 rfl rfl ?_
  obtain ⟨h11, H⟩ := x_ckp H
  refine x_aald4 31 dX8_show_31 h11 ?_
  refine x_iload_n 32 2 dX8_show_32 rfl rfl ?_
  obtain ⟨h12, H⟩ := x_ckp H
  obtain ⟨M13, e15, H⟩ := x_bv_of H
  refine x_callV 33 131 6 [(.int v2)] [] dX8_show_33 (ct_X6_holdCounter l e15) lk_482 lk_483 lk_484 (by decide) h12 lk_93 lk_485 ⟨cn_X6_holdCounter, (by decide), by decide⟩ rfl (Nat.le_of_ble_eq_true rfl) (Nat.le_of_ble_eq_true rfl) (Nat.le_of_ble_eq_true rfl) (x_rv ?_)
  refine x_iload_n 36 2 dX8_show_36 rfl rfl ?_
  refine x_iconst 37 (-1 : Int32) dX8_show_37 (by decide) ?_
  refine x_icmp_ne 38 45 dX8_show_38 (by decide) (fun c16 => ?_) (fun c16 => ?_)
  · replace H := x_ifn c16 H
    refine x_iconst 45 (1 : Int32) dX8_show_45 (by decide) ?_
    cases H
    exact x_iret 46 dX8_show_46 .int rfl rfl (Nat.le_of_ble_eq_true rfl) (Nat.le_of_ble_eq_true rfl) ⟨rfl, rfl⟩
  · replace H := x_ifp c16 H
    refine x_iconst 41 (0 : Int32) dX8_show_41 (by decide) ?_
    refine x_goto 42 46 dX8_show_42 (by decide) ?_
    cases H
    exact x_iret 46 dX8_show_46 .int rfl rfl (Nat.le_of_ble_eq_true rfl) (Nat.le_of_ble_eq_true rfl) ⟨rfl, rfl⟩

def f_X8_show (v0 : Nat) (v1 : Int32) (v2 : Int32) (M : XM) : Option (Int32 × XM) :=
  x_bd (f_X8_isShelf v1 M) (fun r2 M1 => if r2 = 0 then (f_X8_show_20 v0 M1) else (if v2 = (-1 : Int32) then (f_X8_show_26 v0 v1 v2 M1) else (if x_tag M1 v0 = 8 + 10 then (x_bd (f_X8_isCounter v0 v2 M1) (fun r19 M18 => if r19 = 0 then (f_X8_show_20 v0 M18) else (f_X8_show_26 v0 v1 v2 M18))) else none)))
set_option maxRecDepth 20000 in
set_option maxHeartbeats 4000000 in
theorem t_X8_show (l : Launch) {v0 : Nat} {v1 : Int32} {v2 : Int32} {M : XM} {q : Int32 × XM} (H : f_X8_show v0 v1 v2 M = some q) : AW l m_X8_show 2 0 0 (x_Ri q) 0 0 0 [some (.ref v0), some (.int v1), some (.int v2)] [] M := by
  unfold f_X8_show at H
  refine x_iload_n 0 1 dX8_show_0 rfl rfl ?_
  obtain ⟨r2, M1, e3, H⟩ := x_bd_of H
  refine x_callS 1 87 [(.int v1)] [] dX8_show_1 (ct_X8_isShelf l e3) lk_407 lk_408 lk_85 lk_409 ⟨cn_X8_isShelf, (by decide), by decide⟩ rfl (Nat.le_of_ble_eq_true rfl) (Nat.le_of_ble_eq_true rfl) (Nat.le_of_ble_eq_true rfl) (x_ri ?_)
  refine x_if_eq 4 20 dX8_show_4 (by decide) (fun c4 => ?_) (fun c4 => ?_)
  · replace H := x_ifp c4 H
    exact x_wk (le_s (le_n (le_n le_0))) (t_X8_show_20 l H)
  · replace H := x_ifn c4 H
    refine x_iload_n 7 2 dX8_show_7 rfl rfl ?_
    refine x_iconst 8 (-1 : Int32) dX8_show_8 (by decide) ?_
    refine x_icmp_eq 9 26 dX8_show_9 (by decide) (fun c9 => ?_) (fun c9 => ?_)
    · replace H := x_ifp c9 H
      exact t_X8_show_26 l H
    · replace H := x_ifn c9 H
      refine x_aload_n 12 0 dX8_show_12 rfl rfl ?_
      refine x_iload_n 13 2 dX8_show_13 rfl rfl ?_
      obtain ⟨h17, H⟩ := x_ckp H
      obtain ⟨r19, M18, e20, H⟩ := x_bd_of H
      refine x_callV 14 128 8 [(.int v2)] [] dX8_show_14 (ct_X8_isCounter l e20) lk_478 lk_480 lk_3 (by decide) h17 lk_85 lk_481 ⟨cn_X8_isCounter, (by decide), by decide⟩ rfl (Nat.le_of_ble_eq_true rfl) (Nat.le_of_ble_eq_true rfl) (Nat.le_of_ble_eq_true rfl) (x_ri ?_)
      refine x_if_ne 17 26 dX8_show_17 (by decide) (fun c21 => ?_) (fun c21 => ?_)
      · replace H := x_ifn c21 H
        exact t_X8_show_26 l H
      · replace H := x_ifp c21 H
        exact x_wk (le_s (le_n (le_n le_0))) (t_X8_show_20 l H)

theorem ct_X8_show (l : Launch) {v0 : Nat} {v1 : Int32} {v2 : Int32} {M : XM} {q : Int32 × XM} (H : f_X8_show v0 v1 v2 M = some q) : Ct l m_X8_show 2 0 0 [(.ref v0), (.int v1), (.int v2)] M (x_Ri q) := x_met l m_X8_show 2 0 0 [(.ref v0), (.int v1), (.int v2)] M (x_Ri q) _ rfl rfl (Nat.le_of_ble_eq_true rfl) (t_X8_show l H)
theorem lk_493 : Cond.code yX6_content cX6_content 1 (some .int) ∈ x_TB := x_tb (k := 493) (by decide +kernel) rfl
theorem lk_490 : Cond.methodLink RX8 135 yX6_content ∈ x_TB := x_tb (k := 490) (by decide +kernel) rfl
theorem lk_492 : Cond.selects RX6 yX6_content yX6_content ∈ x_TB := x_tb (k := 492) (by decide +kernel) rfl
theorem lk_491 : Cond.instanceMethod yX6_content ∈ x_TB := x_tb (k := 491) (by decide +kernel) rfl
abbrev m_X8_holds : XU := (yX8_holds, cX8_holds, 2, (some .int))
theorem cn_X8_holds : m_X8_holds.1.cls ≠ "java/lang/invoke/MethodHandle" ∧ m_X8_holds.1.cls ≠ "java/lang/invoke/VarHandle" ∧ (parseMethodDescriptor m_X8_holds.1.desc).map (fun q => q.parameters.length) = some 1 := by decide +kernel
def f_X8_holds (v0 : Nat) (v1 : Int32) (M : XM) : Option (Int32 × XM) :=
  x_bd (f_X8_isShelf v1 M) (fun r2 M1 => if r2 = 0 then (some ((-1 : Int32), M1)) else (if x_tag M1 v0 = 8 + 10 then (if x_at M1 (x_r M1 v0 6) 4 v1 = true then (if x_tag M1 (x_r M1 (x_r M1 v0 6) v1.toNatClampNeg) = 6 + 10 then (x_bd (f_X6_content (x_r M1 (x_r M1 v0 6) v1.toNatClampNeg) M1) (fun r9 M8 => some (r9, M8))) else none) else none) else none))
set_option maxRecDepth 20000 in
set_option maxHeartbeats 4000000 in
theorem t_X8_holds (l : Launch) {v0 : Nat} {v1 : Int32} {M : XM} {q : Int32 × XM} (H : f_X8_holds v0 v1 M = some q) : AW l m_X8_holds 3 0 0 (x_Ri q) 0 0 0 [some (.ref v0), some (.int v1)] [] M := by
  unfold f_X8_holds at H
  refine x_iload_n 0 1 dX8_holds_0 rfl rfl ?_
  obtain ⟨r2, M1, e3, H⟩ := x_bd_of H
  refine x_callS 1 87 [(.int v1)] [] dX8_holds_1 (ct_X8_isShelf l e3) lk_407 lk_408 lk_85 lk_409 ⟨cn_X8_isShelf, (by decide), by decide⟩ rfl (Nat.le_of_ble_eq_true rfl) (Nat.le_of_ble_eq_true rfl) (Nat.le_of_ble_eq_true rfl) (x_ri ?_)
  refine x_if_eq 4 19 dX8_holds_4 (by decide) (fun c4 => ?_) (fun c4 => ?_)
  · replace H := x_ifp c4 H
    refine x_iconst 19 (-1 : Int32) dX8_holds_19 (by decide) ?_
    cases H
    exact x_iret 20 dX8_holds_20 .int rfl rfl (Nat.le_of_ble_eq_true rfl) (Nat.le_of_ble_eq_true rfl) ⟨rfl, rfl⟩
  · replace H := x_ifn c4 H
    refine x_aload_n 7 0 dX8_holds_7 rfl rfl ?_
    obtain ⟨h5, H⟩ := x_ckp H
    refine x_getf 8 37 8 6 (.ref (x_r M1 v0 6)) dX8_holds_8 lk_363 (by decide) (by decide) rfl (fun _ => rfl) h5 ?_
    refine x_iload_n 11 1 dX8_holds_11 rfl rfl ?_
    obtain ⟨h6, H⟩ := x_ckp H
    refine x_aald4 12 dX8_holds_12 h6 ?_
    obtain ⟨h7, H⟩ := x_ckp H
    obtain ⟨r9, M8, e10, H⟩ := x_bd_of H
    refine x_callV 13 135 6 [] [] dX8_holds_13 (ct_X6_content l e10) lk_490 lk_491 lk_492 (by decide) h7 lk_93 lk_493 ⟨cn_X6_content, (by decide), by decide⟩ rfl (Nat.le_of_ble_eq_true rfl) (Nat.le_of_ble_eq_true rfl) (Nat.le_of_ble_eq_true rfl) (x_ri ?_)
    refine x_goto 16 20 dX8_holds_16 (by decide) ?_
    cases H
    exact x_iret 20 dX8_holds_20 .int rfl rfl (Nat.le_of_ble_eq_true rfl) (Nat.le_of_ble_eq_true rfl) ⟨rfl, rfl⟩

theorem ct_X8_holds (l : Launch) {v0 : Nat} {v1 : Int32} {M : XM} {q : Int32 × XM} (H : f_X8_holds v0 v1 M = some q) : Ct l m_X8_holds 3 0 0 [(.ref v0), (.int v1)] M (x_Ri q) := x_met l m_X8_holds 3 0 0 [(.ref v0), (.int v1)] M (x_Ri q) _ rfl rfl (Nat.le_of_ble_eq_true rfl) (t_X8_holds l H)
theorem lk_340 : Cond.fieldLink RX8 146 RX6 "counter" "I" ∈ x_TB := x_tb (k := 340) (by decide +kernel) rfl
theorem lk_158 : Cond.fieldLink RX8 149 RX4 "counters" "[LWhatDidYouSay$Counter;" ∈ x_TB := x_tb (k := 158) (by decide +kernel) rfl
theorem lk_125 : Cond.fieldLink RX8 153 RX2 "kind" "I" ∈ x_TB := x_tb (k := 125) (by decide +kernel) rfl
theorem lk_504 : Cond.methodLink RX8 156 yX8_isUnder ∈ x_TB := x_tb (k := 504) (by decide +kernel) rfl
theorem lk_171 : Cond.fieldLink RX8 159 RX4 "apart" "I" ∈ x_TB := x_tb (k := 171) (by decide +kernel) rfl
theorem lk_510 : Cond.code yX2_saysAs cX2_saysAs 3 (some .int) ∈ x_TB := x_tb (k := 510) (by decide +kernel) rfl
theorem lk_507 : Cond.methodLink RX8 162 yX2_saysAs ∈ x_TB := x_tb (k := 507) (by decide +kernel) rfl
theorem lk_509 : Cond.selects RX2 yX2_saysAs yX2_saysAs ∈ x_TB := x_tb (k := 509) (by decide +kernel) rfl
theorem lk_508 : Cond.instanceMethod yX2_saysAs ∈ x_TB := x_tb (k := 508) (by decide +kernel) rfl
abbrev m_X8_says : XU := (yX8_says, cX8_says, 5, (some .int))
theorem cn_X8_says : m_X8_says.1.cls ≠ "java/lang/invoke/MethodHandle" ∧ m_X8_says.1.cls ≠ "java/lang/invoke/VarHandle" ∧ (parseMethodDescriptor m_X8_says.1.desc).map (fun q => q.parameters.length) = some 2 := by decide +kernel
def f_X8_says_14 (v0 : Nat) (M : XM) : Option (Int32 × XM) :=
  if x_tag M v0 = 8 + 10 then (x_bd (f_X8_refuse v0 (-1 : Int32) M) (fun r7 M6 => some (r7, M6))) else none
set_option maxRecDepth 20000 in
set_option maxHeartbeats 4000000 in
theorem t_X8_says_14 (l : Launch) {v0 : Nat} {M : XM} {q : Int32 × XM} (H : f_X8_says_14 v0 M = some q) : AW l m_X8_says 3 0 0 (x_Ri q) 0 0 14 [some (.ref v0), none, none, none, none] [] M := by
  unfold f_X8_says_14 at H
  refine x_aload_n 14 0 dX8_says_14 rfl rfl ?_
  refine x_iconst 15 (-1 : Int32) dX8_says_15 (by decide) ?_
  obtain ⟨h5, H⟩ := x_ckp H
  obtain ⟨r7, M6, e8, H⟩ := x_bd_of H
  refine x_callV 16 91 8 [(.int (-1 : Int32))] [] dX8_says_16 (ct_X8_refuse l e8) lk_410 lk_412 lk_0 (by decide) h5 lk_85 lk_413 ⟨cn_X8_refuse, (by decide), by decide⟩ rfl (Nat.le_of_ble_eq_true rfl) (Nat.le_of_ble_eq_true rfl) (Nat.le_of_ble_eq_true rfl) (x_ri ?_)
  cases H
  exact x_iret 19 dX8_says_19 .int rfl rfl (Nat.le_of_ble_eq_true rfl) (Nat.le_of_ble_eq_true rfl) ⟨rfl, rfl⟩

def f_X8_says (v0 : Nat) (v1 : Int32) (v2 : Int32) (M : XM) : Option (Int32 × XM) :=
  x_bd (f_X8_isShelf v1 M) (fun r2 M1 => if r2 = 0 then (f_X8_says_14 v0 M1) else (x_bd (f_X8_isKind v2 M1) (fun r10 M9 => if r10 = 0 then (f_X8_says_14 v0 M9) else (if x_tag M9 v0 = 8 + 10 then (if x_at M9 (x_r M9 v0 6) 4 v1 = true then (if x_tag M9 (x_r M9 (x_r M9 v0 6) v1.toNatClampNeg) = 6 + 10 then (x_bd (f_X6_hasRow (x_r M9 (x_r M9 v0 6) v1.toNatClampNeg) M9) (fun r17 M16 => if r17 = 0 then (if x_tag M16 v0 = 8 + 10 then (if x_at M16 (x_r M16 v0 6) 4 v1 = true then (if x_tag M16 (x_r M16 (x_r M16 v0 6) v1.toNatClampNeg) = 6 + 10 then (x_bd (f_X8_isCounter v0 (x_i M16 (x_r M16 (x_r M16 v0 6) v1.toNatClampNeg) 0) M16) (fun r24 M23 => if r24 = 0 then (if x_tag M23 v0 = 8 + 10 then (x_bd (f_X8_refuse v0 (-3 : Int32) M23) (fun r29 M28 => some (r29, M28))) else none) else (if x_tag M23 v0 = 8 + 10 then (if x_tag M23 (x_r M23 v0 0) = 4 + 10 then (if x_at M23 (x_r M23 (x_r M23 v0 0) 0) 3 (x_i M16 (x_r M16 (x_r M16 v0 6) v1.toNatClampNeg) 0) = true then (if x_tag M23 (x_r M23 (x_r M23 (x_r M23 v0 0) 0) (x_i M16 (x_r M16 (x_r M16 v0 6) v1.toNatClampNeg) 0).toNatClampNeg) = 2 + 10 then (x_bd (f_X8_isUnder (x_i M23 (x_r M23 (x_r M23 (x_r M23 v0 0) 0) (x_i M16 (x_r M16 (x_r M16 v0 6) v1.toNatClampNeg) 0).toNatClampNeg) 0) v2 M23) (fun r36 M35 => if r36 = 0 then (if x_tag M35 v0 = 8 + 10 then (x_bd (f_X8_refuse v0 (-2 : Int32) M35) (fun r41 M40 => some (r41, M40))) else none) else (if x_tag M35 v0 = 8 + 10 then (if x_tag M35 (x_r M35 v0 0) = 4 + 10 then (if x_tag M35 (x_r M23 (x_r M23 (x_r M23 v0 0) 0) (x_i M16 (x_r M16 (x_r M16 v0 6) v1.toNatClampNeg) 0).toNatClampNeg) = 2 + 10 then (x_bd (f_X2_saysAs (x_r M23 (x_r M23 (x_r M23 v0 0) 0) (x_i M16 (x_r M16 (x_r M16 v0 6) v1.toNatClampNeg) 0).toNatClampNeg) v2 (x_i M35 (x_r M35 v0 0) 3) M35) (fun r47 M46 => some (r47, M46))) else none) else none) else none))) else none) else none) else none) else none))) else none) else none) else none) else (if x_tag M16 v0 = 8 + 10 then (x_bd (f_X8_refuse v0 (-2 : Int32) M16) (fun r51 M50 => some (r51, M50))) else none))) else none) else none) else none))))
set_option maxRecDepth 20000 in
set_option maxHeartbeats 4000000 in
theorem t_X8_says (l : Launch) {v0 : Nat} {v1 : Int32} {v2 : Int32} {M : XM} {q : Int32 × XM} (H : f_X8_says v0 v1 v2 M = some q) : AW l m_X8_says 3 0 0 (x_Ri q) 0 0 0 [some (.ref v0), some (.int v1), some (.int v2), none, none] [] M := by
  unfold f_X8_says at H
  refine x_iload_n 0 1 dX8_says_0 rfl rfl ?_
  obtain ⟨r2, M1, e3, H⟩ := x_bd_of H
  refine x_callS 1 87 [(.int v1)] [] dX8_says_1 (ct_X8_isShelf l e3) lk_407 lk_408 lk_85 lk_409 ⟨cn_X8_isShelf, (by decide), by decide⟩ rfl (Nat.le_of_ble_eq_true rfl) (Nat.le_of_ble_eq_true rfl) (Nat.le_of_ble_eq_true rfl) (x_ri ?_)
  refine x_if_eq 4 14 dX8_says_4 (by decide) (fun c4 => ?_) (fun c4 => ?_)
  · replace H := x_ifp c4 H
    exact x_wk (le_s (le_n (le_n (le_s (le_s le_0))))) (t_X8_says_14 l H)
  · replace H := x_ifn c4 H
    refine x_iload_n 7 2 dX8_says_7 rfl rfl ?_
    obtain ⟨r10, M9, e11, H⟩ := x_bd_of H
    refine x_callS 8 139 [(.int v2)] [] dX8_says_8 (ct_X8_isKind l e11) lk_499 lk_500 lk_85 lk_501 ⟨cn_X8_isKind, (by decide), by decide⟩ rfl (Nat.le_of_ble_eq_true rfl) (Nat.le_of_ble_eq_true rfl) (Nat.le_of_ble_eq_true rfl) (x_ri ?_)
    refine x_if_ne 11 20 dX8_says_11 (by decide) (fun c12 => ?_) (fun c12 => ?_)
    · replace H := x_ifn c12 H
      refine x_aload_n 20 0 dX8_says_20 rfl rfl ?_
      obtain ⟨h13, H⟩ := x_ckp H
      refine x_getf 21 37 8 6 (.ref (x_r M9 v0 6)) dX8_says_21 lk_363 (by decide) (by decide) rfl (fun _ => rfl) h13 ?_
      refine x_iload_n 24 1 dX8_says_24 rfl rfl ?_
      obtain ⟨h14, H⟩ := x_ckp H
      refine x_aald4 25 dX8_says_25 h14 ?_
      obtain ⟨h15, H⟩ := x_ckp H
      obtain ⟨r17, M16, e18, H⟩ := x_bd_of H
      refine x_callV 26 142 6 [] [] dX8_says_26 (ct_X6_hasRow l e18) lk_437 lk_438 lk_439 (by decide) h15 lk_93 lk_440 ⟨cn_X6_hasRow, (by decide), by decide⟩ rfl (Nat.le_of_ble_eq_true rfl) (Nat.le_of_ble_eq_true rfl) (Nat.le_of_ble_eq_true rfl) (x_ri ?_)
      refine x_if_eq 29 39 dX8_says_29 (by decide) (fun c19 => ?_) (fun c19 => ?_)
      · replace H := x_ifp c19 H
        refine x_aload_n 39 0 dX8_says_39 rfl rfl ?_
        obtain ⟨h20, H⟩ := x_ckp H
        refine x_getf 40 37 8 6 (.ref (x_r M16 v0 6)) dX8_says_40 lk_363 (by decide) (by decide) rfl (fun _ => rfl) h20 ?_
        refine x_iload_n 43 1 dX8_says_43 rfl rfl ?_
        obtain ⟨h21, H⟩ := x_ckp H
        refine x_aald4 44 dX8_says_44 h21 ?_
        obtain ⟨h22, H⟩ := x_ckp H
        refine x_getf 45 146 6 0 (.int (x_i M16 (x_r M16 (x_r M16 v0 6) v1.toNatClampNeg) 0)) dX8_says_45 lk_340 (by decide) (by decide) rfl (fun _ => rfl) h22 ?_
        refine x_istore_n 48 3 [some (.ref v0), some (.int v1), some (.int v2), some (.int (x_i M16 (x_r M16 (x_r M16 v0 6) v1.toNatClampNeg) 0)), none] dX8_says_48 rfl rfl (Nat.le_of_ble_eq_true rfl) rfl ?_
        refine x_aload_n 49 0 dX8_says_49 rfl rfl ?_
        refine x_iload_n 50 3 dX8_says_50 rfl rfl ?_
        obtain ⟨r24, M23, e25, H⟩ := x_bd_of H
        refine x_callV 51 128 8 [(.int (x_i M16 (x_r M16 (x_r M16 v0 6) v1.toNatClampNeg) 0))] [] dX8_says_51 (ct_X8_isCounter l e25) lk_478 lk_480 lk_3 (by decide) h20 lk_85 lk_481 ⟨cn_X8_isCounter, (by decide), by decide⟩ rfl (Nat.le_of_ble_eq_true rfl) (Nat.le_of_ble_eq_true rfl) (Nat.le_of_ble_eq_true rfl) (x_ri ?_)
        refine x_if_ne 54 64 dX8_says_54 (by decide) (fun c26 => ?_) (fun c26 => ?_)
        · replace H := x_ifn c26 H
          refine x_aload_n 64 0 dX8_says_64 rfl rfl ?_
          obtain ⟨h31, H⟩ := x_ckp H
          refine x_getf 65 10 8 0 (.ref (x_r M23 v0 0)) dX8_says_65 lk_357 (by decide) (by decide) rfl (fun _ => rfl) h31 ?_
          obtain ⟨h32, H⟩ := x_ckp H
          refine x_getf 68 149 4 0 (.ref (x_r M23 (x_r M23 v0 0) 0)) dX8_says_68 lk_158 (by decide) (by decide) rfl (fun _ => rfl) h32 ?_
          refine x_iload_n 71 3 dX8_says_71 rfl rfl ?_
          obtain ⟨h33, H⟩ := x_ckp H
          refine x_aald3 72 dX8_says_72 h33 ?_
          refine x_astore 73 4 [some (.ref v0), some (.int v1), some (.int v2), some (.int (x_i M16 (x_r M16 (x_r M16 v0 6) v1.toNatClampNeg) 0)), some (.ref (x_r M23 (x_r M23 (x_r M23 v0 0) 0) (x_i M16 (x_r M16 (x_r M16 v0 6) v1.toNatClampNeg) 0).toNatClampNeg))] dX8_says_73 rfl (Nat.le_of_ble_eq_true rfl) rfl ?_
          refine x_aload 75 4 dX8_says_75 rfl ?_
          obtain ⟨h34, H⟩ := x_ckp H
          refine x_getf 77 153 2 0 (.int (x_i M23 (x_r M23 (x_r M23 (x_r M23 v0 0) 0) (x_i M16 (x_r M16 (x_r M16 v0 6) v1.toNatClampNeg) 0).toNatClampNeg) 0)) dX8_says_77 lk_125 (by decide) (by decide) rfl (fun _ => rfl) h34 ?_
          refine x_iload_n 80 2 dX8_says_80 rfl rfl ?_
          obtain ⟨r36, M35, e37, H⟩ := x_bd_of H
          refine x_callS 81 156 [(.int (x_i M23 (x_r M23 (x_r M23 (x_r M23 v0 0) 0) (x_i M16 (x_r M16 (x_r M16 v0 6) v1.toNatClampNeg) 0).toNatClampNeg) 0)), (.int v2)] [] dX8_says_81 (ct_X8_isUnder l e37) lk_504 lk_505 lk_85 lk_506 ⟨cn_X8_isUnder, (by decide), by decide⟩ rfl (Nat.le_of_ble_eq_true rfl) (Nat.le_of_ble_eq_true rfl) (Nat.le_of_ble_eq_true rfl) (x_ri ?_)
          refine x_if_ne 84 94 dX8_says_84 (by decide) (fun c38 => ?_) (fun c38 => ?_)
          · replace H := x_ifn c38 H
            refine x_aload 94 4 dX8_says_94 rfl ?_
            refine x_iload_n 96 2 dX8_says_96 rfl rfl ?_
            refine x_aload_n 97 0 dX8_says_97 rfl rfl ?_
            obtain ⟨h43, H⟩ := x_ckp H
            refine x_getf 98 10 8 0 (.ref (x_r M35 v0 0)) dX8_says_98 lk_357 (by decide) (by decide) rfl (fun _ => rfl) h43 ?_
            obtain ⟨h44, H⟩ := x_ckp H
            refine x_getf 101 159 4 3 (.int (x_i M35 (x_r M35 v0 0) 3)) dX8_says_101 lk_171 (by decide) (by decide) rfl (fun _ => rfl) h44 ?_
            obtain ⟨h45, H⟩ := x_ckp H
            obtain ⟨r47, M46, e48, H⟩ := x_bd_of H
            refine x_callV 104 162 2 [(.int v2), (.int (x_i M35 (x_r M35 v0 0) 3))] [] dX8_says_104 (ct_X2_saysAs l e48) lk_507 lk_508 lk_509 (by decide) h45 lk_87 lk_510 ⟨cn_X2_saysAs, (by decide), by decide⟩ rfl (Nat.le_of_ble_eq_true rfl) (Nat.le_of_ble_eq_true rfl) (Nat.le_of_ble_eq_true rfl) (x_ri ?_)
            cases H
            exact x_iret 107 dX8_says_107 .int rfl rfl (Nat.le_of_ble_eq_true rfl) (Nat.le_of_ble_eq_true rfl) ⟨rfl, rfl⟩
          · replace H := x_ifp c38 H
            refine x_aload_n 87 0 dX8_says_87 rfl rfl ?_
            refine x_bipush 88 (-2 : Int32) dX8_says_88 (by decide) ?_
            obtain ⟨h39, H⟩ := x_ckp H
            obtain ⟨r41, M40, e42, H⟩ := x_bd_of H
            refine x_callV 90 91 8 [(.int (-2 : Int32))] [] dX8_says_90 (ct_X8_refuse l e42) lk_410 lk_412 lk_0 (by decide) h39 lk_85 lk_413 ⟨cn_X8_refuse, (by decide), by decide⟩ rfl (Nat.le_of_ble_eq_true rfl) (Nat.le_of_ble_eq_true rfl) (Nat.le_of_ble_eq_true rfl) (x_ri ?_)
            cases H
            exact x_iret 93 dX8_says_93 .int rfl rfl (Nat.le_of_ble_eq_true rfl) (Nat.le_of_ble_eq_true rfl) ⟨rfl, rfl⟩
        · replace H := x_ifp c26 H
          refine x_aload_n 57 0 dX8_says_57 rfl rfl ?_
          refine x_bipush 58 (-3 : Int32) dX8_says_58 (by decide) ?_
          obtain ⟨h27, H⟩ := x_ckp H
          obtain ⟨r29, M28, e30, H⟩ := x_bd_of H
          refine x_callV 60 91 8 [(.int (-3 : Int32))] [] dX8_says_60 (ct_X8_refuse l e30) lk_410 lk_412 lk_0 (by decide) h27 lk_85 lk_413 ⟨cn_X8_refuse, (by decide), by decide⟩ rfl (Nat.le_of_ble_eq_true rfl) (Nat.le_of_ble_eq_true rfl) (Nat.le_of_ble_eq_true rfl) (x_ri ?_)
          cases H
          exact x_iret 63 dX8_says_63 .int rfl rfl (Nat.le_of_ble_eq_true rfl) (Nat.le_of_ble_eq_true rfl) ⟨rfl, rfl⟩
      · replace H := x_ifn c19 H
        refine x_aload_n 32 0 dX8_says_32 rfl rfl ?_
        refine x_bipush 33 (-2 : Int32) dX8_says_33 (by decide) ?_
        obtain ⟨h49, H⟩ := x_ckp H
        obtain ⟨r51, M50, e52, H⟩ := x_bd_of H
        refine x_callV 35 91 8 [(.int (-2 : Int32))] [] dX8_says_35 (ct_X8_refuse l e52) lk_410 lk_412 lk_0 (by decide) h49 lk_85 lk_413 ⟨cn_X8_refuse, (by decide), by decide⟩ rfl (Nat.le_of_ble_eq_true rfl) (Nat.le_of_ble_eq_true rfl) (Nat.le_of_ble_eq_true rfl) (x_ri ?_)
        cases H
        exact x_iret 38 dX8_says_38 .int rfl rfl (Nat.le_of_ble_eq_true rfl) (Nat.le_of_ble_eq_true rfl) ⟨rfl, rfl⟩
    · replace H := x_ifp c12 H
      exact x_wk (le_s (le_n (le_n (le_s (le_s le_0))))) (t_X8_says_14 l H)

theorem ct_X8_says (l : Launch) {v0 : Nat} {v1 : Int32} {v2 : Int32} {M : XM} {q : Int32 × XM} (H : f_X8_says v0 v1 v2 M = some q) : Ct l m_X8_says 3 0 0 [(.ref v0), (.int v1), (.int v2)] M (x_Ri q) := x_met l m_X8_says 3 0 0 [(.ref v0), (.int v1), (.int v2)] M (x_Ri q) _ rfl rfl (Nat.le_of_ble_eq_true rfl) (t_X8_says l H)
theorem lk_518 : Cond.methodLink RX8 165 yX4_hasRoomForCounter ∈ x_TB := x_tb (k := 518) (by decide +kernel) rfl
theorem lk_522 : Cond.methodLink RX8 168 yX4_addCounter ∈ x_TB := x_tb (k := 522) (by decide +kernel) rfl
abbrev m_X8_counter : XU := (yX8_counter, cX8_counter, 3, (some .int))
theorem cn_X8_counter : m_X8_counter.1.cls ≠ "java/lang/invoke/MethodHandle" ∧ m_X8_counter.1.cls ≠ "java/lang/invoke/VarHandle" ∧ (parseMethodDescriptor m_X8_counter.1.desc).map (fun q => q.parameters.length) = some 2 := by decide +kernel
def f_X8_counter_23 (v0 : Nat) (M : XM) : Option (Int32 × XM) :=
  if x_tag M v0 = 8 + 10 then (x_bd (f_X8_refuse v0 (-6 : Int32) M) (fun r12 M11 => some (r12, M11))) else none
set_option maxRecDepth 20000 in
set_option maxHeartbeats 4000000 in
theorem t_X8_counter_23 (l : Launch) {v0 : Nat} {M : XM} {q : Int32 × XM} (H : f_X8_counter_23 v0 M = some q) : AW l m_X8_counter 4 0 0 (x_Ri q) 0 0 23 [some (.ref v0), none, none] [] M := by
  unfold f_X8_counter_23 at H
  refine x_aload_n 23 0 dX8_counter_23 rfl rfl ?_
  refine x_bipush 24 (-6 : Int32) dX8_counter_24 (by decide) ?_
  obtain ⟨h10, H⟩ := x_ckp H
  obtain ⟨r12, M11, e13, H⟩ := x_bd_of H
  refine x_callV 26 91 8 [(.int (-6 : Int32))] [] dX8_counter_26 (ct_X8_refuse l e13) lk_410 lk_412 lk_0 (by decide) h10 lk_85 lk_413 ⟨cn_X8_refuse, (by decide), by decide⟩ rfl (Nat.le_of_ble_eq_true rfl) (Nat.le_of_ble_eq_true rfl) (Nat.le_of_ble_eq_true rfl) (x_ri ?_)
  cases H
  exact x_iret 29 dX8_counter_29 .int rfl rfl (Nat.le_of_ble_eq_true rfl) (Nat.le_of_ble_eq_true rfl) ⟨rfl, rfl⟩

def f_X8_counter (v0 : Nat) (v1 : Int32) (v2 : Int32) (M : XM) : Option (Int32 × XM) :=
  x_bd (f_X8_isKind v1 M) (fun r2 M1 => if r2 = 0 then (if x_tag M1 v0 = 8 + 10 then (x_bd (f_X8_refuse v0 (-1 : Int32) M1) (fun r7 M6 => some (r7, M6))) else none) else (if v2 < 0 then (f_X8_counter_23 v0 M1) else (if v2 ≤ (9 : Int32) then (if x_tag M1 v0 = 8 + 10 then (if x_tag M1 (x_r M1 v0 0) = 4 + 10 then (x_bd (f_X4_hasRoomForCounter (x_r M1 v0 0) M1) (fun r18 M17 => if r18 = 0 then (if x_tag M17 v0 = 8 + 10 then (x_bd (f_X8_refuse v0 (-7 : Int32) M17) (fun r23 M22 => some (r23, M22))) else none) else (if x_tag M17 v0 = 8 + 10 then (if x_tag M17 (x_r M17 v0 0) = 4 + 10 then (x_bd (f_X4_addCounter (x_r M17 v0 0) v1 v2 M17) (fun r28 M27 => some (r28, M27))) else none) else none))) else none) else none) else (f_X8_counter_23 v0 M1))))
set_option maxRecDepth 20000 in
set_option maxHeartbeats 4000000 in
theorem t_X8_counter (l : Launch) {v0 : Nat} {v1 : Int32} {v2 : Int32} {M : XM} {q : Int32 × XM} (H : f_X8_counter v0 v1 v2 M = some q) : AW l m_X8_counter 4 0 0 (x_Ri q) 0 0 0 [some (.ref v0), some (.int v1), some (.int v2)] [] M := by
  unfold f_X8_counter at H
  refine x_iload_n 0 1 dX8_counter_0 rfl rfl ?_
  obtain ⟨r2, M1, e3, H⟩ := x_bd_of H
  refine x_callS 1 139 [(.int v1)] [] dX8_counter_1 (ct_X8_isKind l e3) lk_499 lk_500 lk_85 lk_501 ⟨cn_X8_isKind, (by decide), by decide⟩ rfl (Nat.le_of_ble_eq_true rfl) (Nat.le_of_ble_eq_true rfl) (Nat.le_of_ble_eq_true rfl) (x_ri ?_)
  refine x_if_ne 4 13 dX8_counter_4 (by decide) (fun c4 => ?_) (fun c4 => ?_)
  · replace H := x_ifn c4 H
    refine x_iload_n 13 2 dX8_counter_13 rfl rfl ?_
    refine x_if_lt 14 23 dX8_counter_14 (by decide) (fun c9 => ?_) (fun c9 => ?_)
    · replace H := x_ifp c9 H
      exact x_wk (le_s (le_n (le_n le_0))) (t_X8_counter_23 l H)
    · replace H := x_ifn c9 H
      refine x_iload_n 17 2 dX8_counter_17 rfl rfl ?_
      refine x_bipush 18 (9 : Int32) dX8_counter_18 (by decide) ?_
      refine x_icmp_le 20 30 dX8_counter_20 (by decide) (fun c14 => ?_) (fun c14 => ?_)
      · replace H := x_ifp c14 H
        refine x_aload_n 30 0 dX8_counter_30 rfl rfl ?_
        obtain ⟨h15, H⟩ := x_ckp H
        refine x_getf 31 10 8 0 (.ref (x_r M1 v0 0)) dX8_counter_31 lk_357 (by decide) (by decide) rfl (fun _ => rfl) h15 ?_
        obtain ⟨h16, H⟩ := x_ckp H
        obtain ⟨r18, M17, e19, H⟩ := x_bd_of H
        refine x_callV 34 165 4 [] [] dX8_counter_34 (ct_X4_hasRoomForCounter l e19) lk_518 lk_519 lk_520 (by decide) h16 lk_86 lk_521 ⟨cn_X4_hasRoomForCounter, (by decide), by decide⟩ rfl (Nat.le_of_ble_eq_true rfl) (Nat.le_of_ble_eq_true rfl) (Nat.le_of_ble_eq_true rfl) (x_ri ?_)
        refine x_if_ne 37 47 dX8_counter_37 (by decide) (fun c20 => ?_) (fun c20 => ?_)
        · replace H := x_ifn c20 H
          refine x_aload_n 47 0 dX8_counter_47 rfl rfl ?_
          obtain ⟨h25, H⟩ := x_ckp H
          refine x_getf 48 10 8 0 (.ref (x_r M17 v0 0)) dX8_counter_48 lk_357 (by decide) (by decide) rfl (fun _ => rfl) h25 ?_
          refine x_iload_n 51 1 dX8_counter_51 rfl rfl ?_
          refine x_iload_n 52 2 dX8_counter_52 rfl rfl ?_
          obtain ⟨h26, H⟩ := x_ckp H
          obtain ⟨r28, M27, e29, H⟩ := x_bd_of H
          refine x_callV 53 168 4 [(.int v1), (.int v2)] [] dX8_counter_53 (ct_X4_addCounter l e29) lk_522 lk_523 lk_524 (by decide) h26 lk_86 lk_525 ⟨cn_X4_addCounter, (by decide), by decide⟩ rfl (Nat.le_of_ble_eq_true rfl) (Nat.le_of_ble_eq_true rfl) (Nat.le_of_ble_eq_true rfl) (x_ri ?_)
          cases H
          exact x_iret 56 dX8_counter_56 .int rfl rfl (Nat.le_of_ble_eq_true rfl) (Nat.le_of_ble_eq_true rfl) ⟨rfl, rfl⟩
        · replace H := x_ifp c20 H
          refine x_aload_n 40 0 dX8_counter_40 rfl rfl ?_
          refine x_bipush 41 (-7 : Int32) dX8_counter_41 (by decide) ?_
          obtain ⟨h21, H⟩ := x_ckp H
          obtain ⟨r23, M22, e24, H⟩ := x_bd_of H
          refine x_callV 43 91 8 [(.int (-7 : Int32))] [] dX8_counter_43 (ct_X8_refuse l e24) lk_410 lk_412 lk_0 (by decide) h21 lk_85 lk_413 ⟨cn_X8_refuse, (by decide), by decide⟩ rfl (Nat.le_of_ble_eq_true rfl) (Nat.le_of_ble_eq_true rfl) (Nat.le_of_ble_eq_true rfl) (x_ri ?_)
          cases H
          exact x_iret 46 dX8_counter_46 .int rfl rfl (Nat.le_of_ble_eq_true rfl) (Nat.le_of_ble_eq_true rfl) ⟨rfl, rfl⟩
      · replace H := x_ifn c14 H
        exact x_wk (le_s (le_n (le_n le_0))) (t_X8_counter_23 l H)
  · replace H := x_ifp c4 H
    refine x_aload_n 7 0 dX8_counter_7 rfl rfl ?_
    refine x_iconst 8 (-1 : Int32) dX8_counter_8 (by decide) ?_
    obtain ⟨h5, H⟩ := x_ckp H
    obtain ⟨r7, M6, e8, H⟩ := x_bd_of H
    refine x_callV 9 91 8 [(.int (-1 : Int32))] [] dX8_counter_9 (ct_X8_refuse l e8) lk_410 lk_412 lk_0 (by decide) h5 lk_85 lk_413 ⟨cn_X8_refuse, (by decide), by decide⟩ rfl (Nat.le_of_ble_eq_true rfl) (Nat.le_of_ble_eq_true rfl) (Nat.le_of_ble_eq_true rfl) (x_ri ?_)
    cases H
    exact x_iret 12 dX8_counter_12 .int rfl rfl (Nat.le_of_ble_eq_true rfl) (Nat.le_of_ble_eq_true rfl) ⟨rfl, rfl⟩

theorem ct_X8_counter (l : Launch) {v0 : Nat} {v1 : Int32} {v2 : Int32} {M : XM} {q : Int32 × XM} (H : f_X8_counter v0 v1 v2 M = some q) : Ct l m_X8_counter 4 0 0 [(.ref v0), (.int v1), (.int v2)] M (x_Ri q) := x_met l m_X8_counter 4 0 0 [(.ref v0), (.int v1), (.int v2)] M (x_Ri q) _ rfl rfl (Nat.le_of_ble_eq_true rfl) (t_X8_counter l H)
theorem lk_129 : Cond.fieldLink RX8 171 RX2 "a" "I" ∈ x_TB := x_tb (k := 129) (by decide +kernel) rfl
theorem lk_135 : Cond.fieldLink RX8 174 RX2 "at" "I" ∈ x_TB := x_tb (k := 135) (by decide +kernel) rfl
theorem lk_137 : Cond.fieldLink RX8 177 RX2 "off" "I" ∈ x_TB := x_tb (k := 137) (by decide +kernel) rfl
theorem lk_141 : Cond.fieldLink RX8 180 RX2 "heard" "I" ∈ x_TB := x_tb (k := 141) (by decide +kernel) rfl
abbrev m_X8_counterOf : XU := (yX8_counterOf, cX8_counterOf, 4, (some .int))
theorem cn_X8_counterOf : m_X8_counterOf.1.cls ≠ "java/lang/invoke/MethodHandle" ∧ m_X8_counterOf.1.cls ≠ "java/lang/invoke/VarHandle" ∧ (parseMethodDescriptor m_X8_counterOf.1.desc).map (fun q => q.parameters.length) = some 2 := by decide +kernel
def f_X8_counterOf (v0 : Nat) (v1 : Int32) (v2 : Int32) (M : XM) : Option (Int32 × XM) :=
  if x_tag M v0 = 8 + 10 then (x_bd (f_X8_isCounter v0 v1 M) (fun r3 M2 => if r3 = 0 then (if x_tag M2 v0 = 8 + 10 then (x_bd (f_X8_refuse v0 (-5 : Int32) M2) (fun r8 M7 => some (r8, M7))) else none) else (if x_tag M2 v0 = 8 + 10 then (if x_tag M2 (x_r M2 v0 0) = 4 + 10 then (if x_at M2 (x_r M2 (x_r M2 v0 0) 0) 3 v1 = true then (if v2 = (0 : Int32) then (if x_tag M2 (x_r M2 (x_r M2 (x_r M2 v0 0) 0) v1.toNatClampNeg) = 2 + 10 then (some ((x_i M2 (x_r M2 (x_r M2 (x_r M2 v0 0) 0) v1.toNatClampNeg) 0), M2)) else none) else if v2 = (1 : Int32) then (if x_tag M2 (x_r M2 (x_r M2 (x_r M2 v0 0) 0) v1.toNatClampNeg) = 2 + 10 then (some ((x_i M2 (x_r M2 (x_r M2 (x_r M2 v0 0) 0) v1.toNatClampNeg) 1), M2)) else none) else if v2 = (2 : Int32) then (if x_tag M2 (x_r M2 (x_r M2 (x_r M2 v0 0) 0) v1.toNatClampNeg) = 2 + 10 then (some ((x_i M2 (x_r M2 (x_r M2 (x_r M2 v0 0) 0) v1.toNatClampNeg) 2), M2)) else none) else if v2 = (3 : Int32) then (if x_tag M2 (x_r M2 (x_r M2 (x_r M2 v0 0) 0) v1.toNatClampNeg) = 2 + 10 then (some ((x_i M2 (x_r M2 (x_r M2 (x_r M2 v0 0) 0) v1.toNatClampNeg) 3), M2)) else none) else if v2 = (4 : Int32) then (if x_tag M2 (x_r M2 (x_r M2 (x_r M2 v0 0) 0) v1.toNatClampNeg) = 2 + 10 then (some ((x_i M2 (x_r M2 (x_r M2 (x_r M2 v0 0) 0) v1.toNatClampNeg) 4), M2)) else none) else x_bd (f_X8_refuse v0 (-5 : Int32) M2) (fun r24 M23 => some (r24, M23))) else none) else none) else none))) else none
set_option maxRecDepth 20000 in
set_option maxHeartbeats 4000000 in
theorem t_X8_counterOf (l : Launch) {v0 : Nat} {v1 : Int32} {v2 : Int32} {M : XM} {q : Int32 × XM} (H : f_X8_counterOf v0 v1 v2 M = some q) : AW l m_X8_counterOf 2 0 0 (x_Ri q) 0 0 0 [some (.ref v0), some (.int v1), some (.int v2), none] [] M := by
  unfold f_X8_counterOf at H
  refine x_aload_n 0 0 dX8_counterOf_0 rfl rfl ?_
  refine x_iload_n 1 1 dX8_counterOf_1 rfl rfl ?_
  obtain ⟨h1, H⟩ := x_ckp H
  obtain ⟨r3, M2, e4, H⟩ := x_bd_of H
  refine x_callV 2 128 8 [(.int v1)] [] dX8_counterOf_2 (ct_X8_isCounter l e4) lk_478 lk_480 lk_3 (by decide) h1 lk_85 lk_481 ⟨cn_X8_isCounter, (by decide), by decide⟩ rfl (Nat.le_of_ble_eq_true rfl) (Nat.le_of_ble_eq_true rfl) (Nat.le_of_ble_eq_true rfl) (x_ri ?_)
  refine x_if_ne 5 15 dX8_counterOf_5 (by decide) (fun c5 => ?_) (fun c5 => ?_)
  · replace H := x_ifn c5 H
    refine x_aload_n 15 0 dX8_counterOf_15 rfl rfl ?_
    obtain ⟨h10, H⟩ := x_ckp H
    refine x_getf 16 10 8 0 (.ref (x_r M2 v0 0)) dX8_counterOf_16 lk_357 (by decide) (by decide) rfl (fun _ => rfl) h10 ?_
    obtain ⟨h11, H⟩ := x_ckp H
    refine x_getf 19 149 4 0 (.ref (x_r M2 (x_r M2 v0 0) 0)) dX8_counterOf_19 lk_158 (by decide) (by decide) rfl (fun _ => rfl) h11 ?_
    refine x_iload_n 22 1 dX8_counterOf_22 rfl rfl ?_
    obtain ⟨h12, H⟩ := x_ckp H
    refine x_aald3 23 dX8_counterOf_23 h12 ?_
    refine x_astore_n 24 3 [some (.ref v0), some (.int v1), some (.int v2), some (.ref (x_r M2 (x_r M2 (x_r M2 v0 0) 0) v1.toNatClampNeg))] dX8_counterOf_24 rfl rfl (Nat.le_of_ble_eq_true rfl) rfl ?_
    refine x_iload_n 25 2 dX8_counterOf_25 rfl rfl ?_
    by_cases c13 : v2 = (0 : Int32)
    · replace H := x_ifp c13 H
      refine x_tableIn (off := 34) 26 60 dX8_counterOf_26 (by rw [c13]; decide) (by rw [c13]; decide) (by rw [c13]; rfl) (by decide) ?_
      refine x_aload_n 60 3 dX8_counterOf_60 rfl rfl ?_
      obtain ⟨h14, H⟩ := x_ckp H
      refine x_getf 61 153 2 0 (.int (x_i M2 (x_r M2 (x_r M2 (x_r M2 v0 0) 0) v1.toNatClampNeg) 0)) dX8_counterOf_61 lk_125 (by decide) (by decide) rfl (fun _ => rfl) h14 ?_
      cases H
      exact x_iret 64 dX8_counterOf_64 .int rfl rfl (Nat.le_of_ble_eq_true rfl) (Nat.le_of_ble_eq_true rfl) ⟨rfl, rfl⟩
    · replace H := x_ifn c13 H
      by_cases c15 : v2 = (1 : Int32)
      · replace H := x_ifp c15 H
        refine x_tableIn (off := 39) 26 65 dX8_counterOf_26 (by rw [c15]; decide) (by rw [c15]; decide) (by rw [c15]; rfl) (by decide) ?_
        refine x_aload_n 65 3 dX8_counterOf_65 rfl rfl ?_
        obtain ⟨h16, H⟩ := x_ckp H
        refine x_getf 66 171 2 1 (.int (x_i M2 (x_r M2 (x_r M2 (x_r M2 v0 0) 0) v1.toNatClampNeg) 1)) dX8_counterOf_66 lk_129 (by decide) (by decide) rfl (fun _ => rfl) h16 ?_
        cases H
        exact x_iret 69 dX8_counterOf_69 .int rfl rfl (Nat.le_of_ble_eq_true rfl) (Nat.le_of_ble_eq_true rfl) ⟨rfl, rfl⟩
      · replace H := x_ifn c15 H
        by_cases c17 : v2 = (2 : Int32)
        · replace H := x_ifp c17 H
          refine x_tableIn (off := 44) 26 70 dX8_counterOf_26 (by rw [c17]; decide) (by rw [c17]; decide) (by rw [c17]; rfl) (by decide) ?_
          refine x_aload_n 70 3 dX8_counterOf_70 rfl rfl ?_
          obtain ⟨h18, H⟩ := x_ckp H
          refine x_getf 71 174 2 2 (.int (x_i M2 (x_r M2 (x_r M2 (x_r M2 v0 0) 0) v1.toNatClampNeg) 2)) dX8_counterOf_71 lk_135 (by decide) (by decide) rfl (fun _ => rfl) h18 ?_
          cases H
          exact x_iret 74 dX8_counterOf_74 .int rfl rfl (Nat.le_of_ble_eq_true rfl) (Nat.le_of_ble_eq_true rfl) ⟨rfl, rfl⟩
        · replace H := x_ifn c17 H
          by_cases c19 : v2 = (3 : Int32)
          · replace H := x_ifp c19 H
            refine x_tableIn (off := 49) 26 75 dX8_counterOf_26 (by rw [c19]; decide) (by rw [c19]; decide) (by rw [c19]; rfl) (by decide) ?_
            refine x_aload_n 75 3 dX8_counterOf_75 rfl rfl ?_
            obtain ⟨h20, H⟩ := x_ckp H
            refine x_getf 76 177 2 3 (.int (x_i M2 (x_r M2 (x_r M2 (x_r M2 v0 0) 0) v1.toNatClampNeg) 3)) dX8_counterOf_76 lk_137 (by decide) (by decide) rfl (fun _ => rfl) h20 ?_
            cases H
            exact x_iret 79 dX8_counterOf_79 .int rfl rfl (Nat.le_of_ble_eq_true rfl) (Nat.le_of_ble_eq_true rfl) ⟨rfl, rfl⟩
          · replace H := x_ifn c19 H
            by_cases c21 : v2 = (4 : Int32)
            · replace H := x_ifp c21 H
              refine x_tableIn (off := 54) 26 80 dX8_counterOf_26 (by rw [c21]; decide) (by rw [c21]; decide) (by rw [c21]; rfl) (by decide) ?_
              refine x_aload_n 80 3 dX8_counterOf_80 rfl rfl ?_
              obtain ⟨h22, H⟩ := x_ckp H
              refine x_getf 81 180 2 4 (.int (x_i M2 (x_r M2 (x_r M2 (x_r M2 v0 0) 0) v1.toNatClampNeg) 4)) dX8_counterOf_81 lk_141 (by decide) (by decide) rfl (fun _ => rfl) h22 ?_
              cases H
              exact x_iret 84 dX8_counterOf_84 .int rfl rfl (Nat.le_of_ble_eq_true rfl) (Nat.le_of_ble_eq_true rfl) ⟨rfl, rfl⟩
            · replace H := x_ifn c21 H
              refine x_tableOut 26 85 dX8_counterOf_26 (by have n0 := lv_neT (a := 0) c13 (by decide); have n1 := lv_neT (a := 1) c15 (by decide); have n2 := lv_neT (a := 2) c17 (by decide); have n3 := lv_neT (a := 3) c19 (by decide); have n4 := lv_neT (a := 4) c21 (by decide); omega) (by decide) ?_
              refine x_aload_n 85 0 dX8_counterOf_85 rfl rfl ?_
              refine x_bipush 86 (-5 : Int32) dX8_counterOf_86 (by decide) ?_
              obtain ⟨r24, M23, e25, H⟩ := x_bd_of H
              refine x_callV 88 91 8 [(.int (-5 : Int32))] [] dX8_counterOf_88 (ct_X8_refuse l e25) lk_410 lk_412 lk_0 (by decide) h10 lk_85 lk_413 ⟨cn_X8_refuse, (by decide), by decide⟩ rfl (Nat.le_of_ble_eq_true rfl) (Nat.le_of_ble_eq_true rfl) (Nat.le_of_ble_eq_true rfl) (x_ri ?_)
              cases H
              exact x_iret 91 dX8_counterOf_91 .int rfl rfl (Nat.le_of_ble_eq_true rfl) (Nat.le_of_ble_eq_true rfl) ⟨rfl, rfl⟩
  · replace H := x_ifp c5 H
    refine x_aload_n 8 0 dX8_counterOf_8 rfl rfl ?_
    refine x_bipush 9 (-5 : Int32) dX8_counterOf_9 (by decide) ?_
    obtain ⟨h6, H⟩ := x_ckp H
    obtain ⟨r8, M7, e9, H⟩ := x_bd_of H
    refine x_callV 11 91 8 [(.int (-5 : Int32))] [] dX8_counterOf_11 (ct_X8_refuse l e9) lk_410 lk_412 lk_0 (by decide) h6 lk_85 lk_413 ⟨cn_X8_refuse, (by decide), by decide⟩ rfl (Nat.le_of_ble_eq_true rfl) (Nat.le_of_ble_eq_true rfl) (Nat.le_of_ble_eq_true rfl) (x_ri ?_)
    cases H
    exact x_iret 14 dX8_counterOf_14 .int rfl rfl (Nat.le_of_ble_eq_true rfl) (Nat.le_of_ble_eq_true rfl) ⟨rfl, rfl⟩

theorem ct_X8_counterOf (l : Launch) {v0 : Nat} {v1 : Int32} {v2 : Int32} {M : XM} {q : Int32 × XM} (H : f_X8_counterOf v0 v1 v2 M = some q) : Ct l m_X8_counterOf 2 0 0 [(.ref v0), (.int v1), (.int v2)] M (x_Ri q) := x_met l m_X8_counterOf 2 0 0 [(.ref v0), (.int v1), (.int v2)] M (x_Ri q) _ rfl rfl (Nat.le_of_ble_eq_true rfl) (t_X8_counterOf l H)
theorem lk_542 : Cond.methodLink RX8 183 yX8_isSetting ∈ x_TB := x_tb (k := 542) (by decide +kernel) rfl
theorem lk_547 : Cond.fieldLink RX8 186 "WhatDidYouSay" "LEAST" "[I" ∈ x_TB := x_tb (k := 547) (by decide +kernel) rfl
theorem lk_549 : Cond.methodLink RX8 192 yX4_change ∈ x_TB := x_tb (k := 549) (by decide +kernel) rfl
abbrev m_X8_ask : XU := (yX8_ask, cX8_ask, 3, (some .int))
theorem cn_X8_ask : m_X8_ask.1.cls ≠ "java/lang/invoke/MethodHandle" ∧ m_X8_ask.1.cls ≠ "java/lang/invoke/VarHandle" ∧ (parseMethodDescriptor m_X8_ask.1.desc).map (fun q => q.parameters.length) = some 2 := by decide +kernel
def f_X8_ask_25 (v0 : Nat) (M : XM) : Option (Int32 × XM) :=
  if x_tag M v0 = 8 + 10 then (x_bd (f_X8_refuse v0 (-6 : Int32) M) (fun r7 M6 => some (r7, M6))) else none
set_option maxRecDepth 20000 in
set_option maxHeartbeats 4000000 in
theorem t_X8_ask_25 (l : Launch) {v0 : Nat} {M : XM} {q : Int32 × XM} (H : f_X8_ask_25 v0 M = some q) : AW l m_X8_ask 3 0 0 (x_Ri q) 0 0 25 [some (.ref v0), none, none] [] M := by
  unfold f_X8_ask_25 at H
  refine x_aload_n 25 0 dX8_ask_25 rfl rfl ?_
  refine x_bipush 26 (-6 : Int32) dX8_ask_26 (by decide) ?_
  obtain ⟨h5, H⟩ := x_ckp H
  obtain ⟨r7, M6, e8, H⟩ := x_bd_of H
  refine x_callV 28 91 8 [(.int (-6 : Int32))] [] dX8_ask_28 (ct_X8_refuse l e8) lk_410 lk_412 lk_0 (by decide) h5 lk_85 lk_413 ⟨cn_X8_refuse, (by decide), by decide⟩ rfl (Nat.le_of_ble_eq_true rfl) (Nat.le_of_ble_eq_true rfl) (Nat.le_of_ble_eq_true rfl) (x_ri ?_)
  cases H
  exact x_iret 31 dX8_ask_31 .int rfl rfl (Nat.le_of_ble_eq_true rfl) (Nat.le_of_ble_eq_true rfl) ⟨rfl, rfl⟩

def f_X8_ask (v0 : Nat) (v1 : Int32) (v2 : Int32) (M : XM) : Option (Int32 × XM) :=
  x_bd (f_X8_isSetting v1 M) (fun r2 M1 => if r2 = 0 then (f_X8_ask_25 v0 M1) else (if x_at M1 3 5 v1 = true then (if v2 < (x_i M1 3 v1.toNatClampNeg) then (f_X8_ask_25 v0 M1) else (if x_at M1 4 5 v1 = true then (if v2 ≤ (x_i M1 4 v1.toNatClampNeg) then (if x_tag M1 v0 = 8 + 10 then (if x_tag M1 (x_r M1 v0 0) = 4 + 10 then (x_bd (f_X4_change (x_r M1 v0 0) v1 v2 M1) (fun r16 M15 => some (r16, M15))) else none) else none) else (f_X8_ask_25 v0 M1)) else none)) else none))
set_option maxRecDepth 20000 in
set_option maxHeartbeats 4000000 in
theorem t_X8_ask (l : Launch) {v0 : Nat} {v1 : Int32} {v2 : Int32} {M : XM} {q : Int32 × XM} (H : f_X8_ask v0 v1 v2 M = some q) : AW l m_X8_ask 3 0 0 (x_Ri q) 0 0 0 [some (.ref v0), some (.int v1), some (.int v2)] [] M := by
  unfold f_X8_ask at H
  refine x_iload_n 0 1 dX8_ask_0 rfl rfl ?_
  obtain ⟨r2, M1, e3, H⟩ := x_bd_of H
  refine x_callS 1 183 [(.int v1)] [] dX8_ask_1 (ct_X8_isSetting l e3) lk_542 lk_543 lk_85 lk_544 ⟨cn_X8_isSetting, (by decide), by decide⟩ rfl (Nat.le_of_ble_eq_true rfl) (Nat.le_of_ble_eq_true rfl) (Nat.le_of_ble_eq_true rfl) (x_ri ?_)
  refine x_if_eq 4 25 dX8_ask_4 (by decide) (fun c4 => ?_) (fun c4 => ?_)
  · replace H := x_ifp c4 H
    exact x_wk (le_s (le_n (le_n le_0))) (t_X8_ask_25 l H)
  · replace H := x_ifn c4 H
    refine x_iload_n 7 2 dX8_ask_7 rfl rfl ?_
    refine x_gets 8 186 3 "LEAST" "[I" dX8_ask_8 "WhatDidYouSay" x_ZL lk_547 ?_
    refine x_iload_n 11 1 dX8_ask_11 rfl rfl ?_
    obtain ⟨h9, H⟩ := x_ckp H
    refine x_siald 12 dX8_ask_12 h9 (by decide) ?_
    refine x_icmp_lt 13 25 dX8_ask_13 (by decide) (fun c10 => ?_) (fun c10 => ?_)
    · replace H := x_ifp c10 H
      exact x_wk (le_s (le_n (le_n le_0))) (t_X8_ask_25 l H)
    · replace H := x_ifn c10 H
      refine x_iload_n 16 2 dX8_ask_16 rfl rfl ?_
      refine x_gets 17 189 4 "MOST" "[I" dX8_ask_17 "WhatDidYouSay" x_ZM lk_545 ?_
      refine x_iload_n 20 1 dX8_ask_20 rfl rfl ?_
      obtain ⟨h11, H⟩ := x_ckp H
      refine x_siald 21 dX8_ask_21 h11 (by decide) ?_
      refine x_icmp_le 22 32 dX8_ask_22 (by decide) (fun c12 => ?_) (fun c12 => ?_)
      · replace H := x_ifp c12 H
        refine x_aload_n 32 0 dX8_ask_32 rfl rfl ?_
        obtain ⟨h13, H⟩ := x_ckp H
        refine x_getf 33 10 8 0 (.ref (x_r M1 v0 0)) dX8_ask_33 lk_357 (by decide) (by decide) rfl (fun _ => rfl) h13 ?_
        refine x_iload_n 36 1 dX8_ask_36 rfl rfl ?_
        refine x_iload_n 37 2 dX8_ask_37 rfl rfl ?_
        obtain ⟨h14, H⟩ := x_ckp H
        obtain ⟨r16, M15, e17, H⟩ := x_bd_of H
        refine x_callV 38 192 4 [(.int v1), (.int v2)] [] dX8_ask_38 (ct_X4_change l e17) lk_549 lk_550 lk_551 (by decide) h14 lk_86 lk_552 ⟨cn_X4_change, (by decide), by decide⟩ rfl (Nat.le_of_ble_eq_true rfl) (Nat.le_of_ble_eq_true rfl) (Nat.le_of_ble_eq_true rfl) (x_ri ?_)
        cases H
        exact x_iret 41 dX8_ask_41 .int rfl rfl (Nat.le_of_ble_eq_true rfl) (Nat.le_of_ble_eq_true rfl) ⟨rfl, rfl⟩
      · replace H := x_ifn c12 H
        exact x_wk (le_s (le_n (le_n le_0))) (t_X8_ask_25 l H)

theorem ct_X8_ask (l : Launch) {v0 : Nat} {v1 : Int32} {v2 : Int32} {M : XM} {q : Int32 × XM} (H : f_X8_ask v0 v1 v2 M = some q) : Ct l m_X8_ask 3 0 0 [(.ref v0), (.int v1), (.int v2)] M (x_Ri q) := x_met l m_X8_ask 3 0 0 [(.ref v0), (.int v1), (.int v2)] M (x_Ri q) _ rfl rfl (Nat.le_of_ble_eq_true rfl) (t_X8_ask l H)
