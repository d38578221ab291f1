abbrev m_X9_fits : XU := (yX9_fits, cX9_fits, 10, (some .int))
theorem cn_X9_fits : m_X9_fits.1.cls ≠ "java/lang/invoke/MethodHandle" ∧ m_X9_fits.1.cls ≠ "java/lang/invoke/VarHandle" ∧ (parseMethodDescriptor m_X9_fits.1.desc).map (fun q => q.parameters.length) = some 2 := by decide +kernel
def f_X9_fits_24 (v0 : Nat) (M : XM) : Option (Int32 × XM) :=
  if x_tag M v0 = 9 + 10 then (x_bd (f_X9_noTen v0 (-6 : Int32) M) (fun r13 M12 => some (r13, M12))) else none
set_option maxRecDepth 20000 in
set_option maxHeartbeats 4000000 in
theorem t_X9_fits_24 (l : Launch) {v0 : Nat} {M : XM} {q : Int32 × XM} (H : f_X9_fits_24 v0 M = some q) : AW l m_X9_fits 3 0 0 (x_Ri q) 0 0 24 [some (.ref v0), none, none, none, none, none, none, none, none, none] [] M := by
  unfold f_X9_fits_24 at H
  refine x_aload_n 24 0 dX9_fits_24 rfl rfl ?_
  refine x_bipush 25 (-6 : Int32) dX9_fits_25 (by decide) ?_
  obtain ⟨h11, H⟩ := x_ckp H
  obtain ⟨r13, M12, e14, H⟩ := x_bd_of H
  refine x_callV 27 212 9 [(.int (-6 : Int32))] [] dX9_fits_27 (ct_X9_noTen l e14) lk_1312 lk_1314 lk_59 (by decide) h11 lk_94 lk_1315 ⟨cn_X9_noTen, (by decide), by decide⟩ rfl (Nat.le_of_ble_eq_true rfl) (Nat.le_of_ble_eq_true rfl) (Nat.le_of_ble_eq_true rfl) (x_ri ?_)
  cases H
  exact x_iret 30 dX9_fits_30 .int rfl rfl (Nat.le_of_ble_eq_true rfl) (Nat.le_of_ble_eq_true rfl) ⟨rfl, rfl⟩

def f_X9_fits_377 (v4 : Int32) (M : XM) : Option (Int32 × XM) :=
  if v4 = (9 : Int32) then (some ((-1 : Int32), M)) else (some (v4, M))
set_option maxRecDepth 20000 in
set_option maxHeartbeats 4000000 in
theorem t_X9_fits_377 (l : Launch) {v4 : Int32} {M : XM} {q : Int32 × XM} (H : f_X9_fits_377 v4 M = some q) : AW l m_X9_fits 3 0 0 (x_Ri q) 0 0 377 [none, none, none, none, some (.int v4), none, none, none, none, none] [] M := by
  unfold f_X9_fits_377 at H
  refine x_iload 377 4 dX9_fits_377 rfl ?_
  refine x_bipush 379 (9 : Int32) dX9_fits_379 (by decide) ?_
  refine x_icmp_ne 381 388 dX9_fits_381 (by decide) (fun c40 => ?_) (fun c40 => ?_)
  · replace H := x_ifn c40 H
    refine x_iload 388 4 dX9_fits_388 rfl ?_
    cases H
    exact x_iret 390 dX9_fits_390 .int rfl rfl (Nat.le_of_ble_eq_true rfl) (Nat.le_of_ble_eq_true rfl) ⟨rfl, rfl⟩
  · replace H := x_ifp c40 H
    refine x_iconst 384 (-1 : Int32) dX9_fits_384 (by decide) ?_
    refine x_goto 385 390 dX9_fits_385 (by decide) ?_
    cases H
    exact x_iret 390 dX9_fits_390 .int rfl rfl (Nat.le_of_ble_eq_true rfl) (Nat.le_of_ble_eq_true rfl) ⟨rfl, rfl⟩

def f_X9_fits_369 (κ319 : Nat → Int32 → Int32 → Int32 → Int32 → XM → Option (Int32 × XM)) (v0 : Nat) (v2 : Int32) (v3 : Int32) (v5 : Int32) (s0 : Int32) (M : XM) : Option (Int32 × XM) :=
  κ319 v0 v2 v3 s0 (v5 + (1 : Int32)) M
set_option maxRecDepth 20000 in
set_option maxHeartbeats 4000000 in
theorem t_X9_fits_369 (l : Launch) {κ319 : Nat → Int32 → Int32 → Int32 → Int32 → XM → Option (Int32 × XM)} {v0 : Nat} {v2 : Int32} {v3 : Int32} {v5 : Int32} {s0 : Int32} {M : XM} {q : Int32 × XM} (hκ319 : ∀ (v0 : Nat) (v2 : Int32) (v3 : Int32) (v4 : Int32) (v5 : Int32) (M : XM), κ319 v0 v2 v3 v4 v5 M = some q → AW l m_X9_fits 3 0 0 (x_Ri q) 0 0 319 [some (.ref v0), none, some (.int v2), some (.int v3), some (.int v4), some (.int v5), none, none, none, none] [] M) (H : f_X9_fits_369 κ319 v0 v2 v3 v5 s0 M = some q) : AW l m_X9_fits 3 0 0 (x_Ri q) 0 0 369 [some (.ref v0), none, some (.int v2), some (.int v3), none, some (.int v5), none, none, none, none] [(.int s0)] M := by
  unfold f_X9_fits_369 at H
  refine x_istore 369 4 [some (.ref v0), none, some (.int v2), some (.int v3), some (.int s0), some (.int v5), none, none, none, none] dX9_fits_369 rfl (Nat.le_of_ble_eq_true rfl) rfl ?_
  refine x_iinc 371 5 (v5 + (1 : Int32)) [some (.ref v0), none, some (.int v2), some (.int v3), some (.int s0), some (.int (v5 + (1 : Int32))), none, none, none, none] dX9_fits_371 rfl (congrArg (fun z : Int32 => v5 + z) (show Int32.ofInt (1) = (1 : Int32) by decide)) rfl (Nat.le_of_ble_eq_true rfl) rfl ?_
  refine x_goto 374 319 dX9_fits_374 (by decide) ?_
  exact hκ319 _ _ _ _ _ _ H

def bd_X9_fits_319 (κ319 : Nat → Int32 → Int32 → Int32 → Int32 → XM → Option (Int32 × XM)) (v0 : Nat) (v2 : Int32) (v3 : Int32) (v4 : Int32) (v5 : Int32) (M : XM) : Option (Int32 × XM) :=
  if v3 ≤ v5 then (f_X9_fits_377 v4 M) else (if v2 ≤ 0 then (f_X9_fits_377 v4 M) else (if x_tag M v0 = 9 + 10 then (if x_at M (x_r M v0 35) 1 (((10 : Int32) * (x_i M v0 1)) + v5) = true then (if v4 ≤ (x_i M (x_r M v0 35) (((10 : Int32) * (x_i M v0 1)) + v5).toNatClampNeg) then (f_X9_fits_369 κ319 v0 v2 v3 v5 v4 M) else (f_X9_fits_369 κ319 v0 v2 v3 v5 (x_i M (x_r M v0 35) (((10 : Int32) * (x_i M v0 1)) + v5).toNatClampNeg) M)) else none) else none))
set_option maxRecDepth 20000 in
set_option maxHeartbeats 4000000 in
theorem tb_X9_fits_319 (l : Launch) {κ319 : Nat → Int32 → Int32 → Int32 → Int32 → XM → Option (Int32 × XM)} {v0 : Nat} {v2 : Int32} {v3 : Int32} {v4 : Int32} {v5 : Int32} {M : XM} {q : Int32 × XM} (hκ319 : ∀ (v0 : Nat) (v2 : Int32) (v3 : Int32) (v4 : Int32) (v5 : Int32) (M : XM), κ319 v0 v2 v3 v4 v5 M = some q → AW l m_X9_fits 3 0 0 (x_Ri q) 0 0 319 [some (.ref v0), none, some (.int v2), some (.int v3), some (.int v4), some (.int v5), none, none, none, none] [] M) (H : bd_X9_fits_319 κ319 v0 v2 v3 v4 v5 M = some q) : AW l m_X9_fits 3 0 0 (x_Ri q) 0 0 319 [some (.ref v0), none, some (.int v2), some (.int v3), some (.int v4), some (.int v5), none, none, none, none] [] M := by
  unfold bd_X9_fits_319 at H
  refine x_iload 319 5 dX9_fits_319 rfl ?_
  refine x_iload_n 321 3 dX9_fits_321 rfl rfl ?_
  refine x_icmp_ge 322 377 dX9_fits_322 (by decide) (fun c39 => ?_) (fun c39 => ?_)
  · replace H := x_ifp c39 H
    exact x_wk (le_n (le_s (le_n (le_n (le_s (le_n (le_s (le_s (le_s (le_s le_0)))))))))) (t_X9_fits_377 l H)
  · replace H := x_ifn c39 H
    refine x_iload_n 325 2 dX9_fits_325 rfl rfl ?_
    refine x_if_le 326 377 dX9_fits_326 (by decide) (fun c41 => ?_) (fun c41 => ?_)
    · replace H := x_ifp c41 H
      exact x_wk (le_n (le_s (le_n (le_n (le_s (le_n (le_s (le_s (le_s (le_s le_0)))))))))) (t_X9_fits_377 l H)
    · replace H := x_ifn c41 H
      refine x_aload_n 329 0 dX9_fits_329 rfl rfl ?_
      obtain ⟨h42, H⟩ := x_ckp H
      refine x_getf 330 81 9 35 (.ref (x_r M v0 35)) dX9_fits_330 lk_1063 (by decide) (by decide) rfl (fun _ => rfl) h42 ?_
      refine x_bipush 333 (10 : Int32) dX9_fits_333 (by decide) ?_
      refine x_aload_n 335 0 dX9_fits_335 rfl rfl ?_
      refine x_getf 336 7 9 1 (.int (x_i M v0 1)) dX9_fits_336 lk_1029 (by decide) (by decide) rfl (fun _ => rfl) h42 ?_
      refine x_imul 339 dX9_fits_339 ?_
      refine x_iload 340 5 dX9_fits_340 rfl ?_
      refine x_iadd 342 dX9_fits_342 ?_
      obtain ⟨h43, H⟩ := x_ckp H
      refine x_iald 343 dX9_fits_343 h43 ?_
      refine x_iload 344 4 dX9_fits_344 rfl ?_
      refine x_icmp_ge 346 367 dX9_fits_346 (by decide) (fun c44 => ?_) (fun c44 => ?_)
      · replace H := x_ifp c44 H
        refine x_iload 367 4 dX9_fits_367 rfl ?_
        exact x_wk (le_s (le_s (le_s (le_s (le_n (le_s (le_s (le_s (le_s (le_s le_0)))))))))) (t_X9_fits_369 l hκ319 H)
      · replace H := x_ifn c44 H
        refine x_aload_n 349 0 dX9_fits_349 rfl rfl ?_
        refine x_getf 350 81 9 35 (.ref (x_r M v0 35)) dX9_fits_350 lk_1063 (by decide) (by decide) rfl (fun _ => rfl) h42 ?_
        refine x_bipush 353 (10 : Int32) dX9_fits_353 (by decide) ?_
        refine x_aload_n 355 0 dX9_fits_355 rfl rfl ?_
        refine x_getf 356 7 9 1 (.int (x_i M v0 1)) dX9_fits_356 lk_1029 (by decide) (by decide) rfl (fun _ => rfl) h42 ?_
        refine x_imul 359 dX9_fits_359 ?_
        refine x_iload 360 5 dX9_fits_360 rfl ?_
        refine x_iadd 362 dX9_fits_362 ?_
        refine x_iald 363 dX9_fits_363 h43 ?_
        refine x_goto 364 369 dX9_fits_364 (by decide) ?_
        exact x_wk (le_s (le_s (le_s (le_s (le_n (le_s (le_s (le_s (le_s (le_s le_0)))))))))) (t_X9_fits_369 l hκ319 H)

def lp_X9_fits_319 (n : Nat) : Nat → Int32 → Int32 → Int32 → Int32 → XM → Option (Int32 × XM) := x_rec (fun _ _ _ _ _ _ => none) (bd_X9_fits_319) n
theorem t_X9_fits_319 (l : Launch) {q : Int32 × XM} : ∀ (n : Nat) (v0 : Nat) (v2 : Int32) (v3 : Int32) (v4 : Int32) (v5 : Int32) (M : XM), lp_X9_fits_319 n v0 v2 v3 v4 v5 M = some q → AW l m_X9_fits 3 0 0 (x_Ri q) 0 0 319 [some (.ref v0), none, some (.int v2), some (.int v3), some (.int v4), some (.int v5), none, none, none, none] [] M := by
  intro n
  induction n with
  | zero => intro v0 v2 v3 v4 v5 M H; cases H
  | succ n ih => intro v0 v2 v3 v4 v5 M H; exact tb_X9_fits_319 l ih H
def bd_X9_fits_278 (κ113 : Nat → Int32 → Int32 → Int32 → Int32 → XM → Option (Int32 × XM)) (κ278 : Nat → Int32 → Int32 → Int32 → Int32 → Int32 → XM → Option (Int32 × XM)) (v0 : Nat) (v1 : Int32) (v2 : Int32) (v3 : Int32) (v4 : Int32) (v5 : Int32) (M : XM) : Option (Int32 × XM) :=
  if (2010 : Int32) ≤ v5 then (κ113 v0 v1 v2 v3 (v4 + (1 : Int32)) M) else (if x_tag M v0 = 9 + 10 then (if x_at M (x_r M v0 36) 1 v5 = true then (if x_at M (x_r M v0 35) 1 v5 = true then (x_lt (x_wi M (x_r M v0 35) v5.toNatClampNeg (x_i M (x_r M v0 36) v5.toNatClampNeg)) (fun M52 => κ278 v0 v1 v2 v3 v4 (v5 + (1 : Int32)) M52)) else none) else none) else none)
set_option maxRecDepth 20000 in
set_option maxHeartbeats 4000000 in
theorem tb_X9_fits_278 (l : Launch) {κ113 : Nat → Int32 → Int32 → Int32 → Int32 → XM → Option (Int32 × XM)} {κ278 : Nat → Int32 → Int32 → Int32 → Int32 → Int32 → XM → Option (Int32 × XM)} {v0 : Nat} {v1 : Int32} {v2 : Int32} {v3 : Int32} {v4 : Int32} {v5 : Int32} {M : XM} {q : Int32 × XM} (hκ113 : ∀ (v0 : Nat) (v1 : Int32) (v2 : Int32) (v3 : Int32) (v4 : Int32) (M : XM), κ113 v0 v1 v2 v3 v4 M = some q → AW l m_X9_fits 3 0 0 (x_Ri q) 0 0 113 [some (.ref v0), some (.int v1), some (.int v2), some (.int v3), some (.int v4), none, none, none, none, none] [] M) (hκ278 : ∀ (v0 : Nat) (v1 : Int32) (v2 : Int32) (v3 : Int32) (v4 : Int32) (v5 : Int32) (M : XM), κ278 v0 v1 v2 v3 v4 v5 M = some q → AW l m_X9_fits 3 0 0 (x_Ri q) 0 0 278 [some (.ref v0), some (.int v1), some (.int v2), some (.int v3), some (.int v4), some (.int v5), none, none, none, none] [] M) (H : bd_X9_fits_278 κ113 κ278 v0 v1 v2 v3 v4 v5 M = some q) : AW l m_X9_fits 3 0 0 (x_Ri q) 0 0 278 [some (.ref v0), some (.int v1), some (.int v2), some (.int v3), some (.int v4), some (.int v5), none, none, none, none] [] M := by
  unfold bd_X9_fits_278 at H
  refine x_iload 278 5 dX9_fits_278 rfl ?_
  refine x_sipush 280 (2010 : Int32) dX9_fits_280 (by decide) ?_
  refine x_icmp_ge 283 306 dX9_fits_283 (by decide) (fun c48 => ?_) (fun c48 => ?_)
  · replace H := x_ifp c48 H
    refine x_iinc 306 4 (v4 + (1 : Int32)) [some (.ref v0), some (.int v1), some (.int v2), some (.int v3), some (.int (v4 + (1 : Int32))), some (.int v5), none, none, none, none] dX9_fits_306 rfl (congrArg (fun z : Int32 => v4 + z) (show Int32.ofInt (1) = (1 : Int32) by decide)) rfl (Nat.le_of_ble_eq_true rfl) rfl ?_
    refine x_goto 309 113 dX9_fits_309 (by decide) ?_
    exact x_wk (le_s (le_s (le_s (le_s (le_s (le_n (le_s (le_s (le_s (le_s le_0)))))))))) (hκ113 _ _ _ _ _ _ H)
  · replace H := x_ifn c48 H
    refine x_aload_n 286 0 dX9_fits_286 rfl rfl ?_
    obtain ⟨h49, H⟩ := x_ckp H
    refine x_getf 287 81 9 35 (.ref (x_r M v0 35)) dX9_fits_287 lk_1063 (by decide) (by decide) rfl (fun _ => rfl) h49 ?_
    refine x_iload 290 5 dX9_fits_290 rfl ?_
    refine x_aload_n 292 0 dX9_fits_292 rfl rfl ?_
    refine x_getf 293 84 9 36 (.ref (x_r M v0 36)) dX9_fits_293 lk_1064 (by decide) (by decide) rfl (fun _ => rfl) h49 ?_
    refine x_iload 296 5 dX9_fits_296 rfl ?_
    obtain ⟨h50, H⟩ := x_ckp H
    refine x_iald 298 dX9_fits_298 h50 ?_
    obtain ⟨h51, H⟩ := x_ckp H
    obtain ⟨M52, w53, H⟩ := x_lt_of H
    have h54 : x_tag M52 v0 = 9 + 10 := by rw [w53]; exact h49
    have h55 : x_at M52 (x_r M v0 36) 1 v5 = true := by rw [w53]; exact h50
    have h56 : x_tag M52 (x_r M v0 36) = 1 := by rw [w53]; exact (x_at_1 h50)
    have h57 : x_at M52 (x_r M v0 35) 1 v5 = true := by rw [w53]; exact h51
    have h58 : x_tag M52 (x_r M v0 35) = 1 := by rw [w53]; exact (x_at_1 h51)
    refine x_iast' 299 dX9_fits_299 h51 w53 ?_
    refine x_iinc 300 5 (v5 + (1 : Int32)) [some (.ref v0), some (.int v1), some (.int v2), some (.int v3), some (.int v4), some (.int (v5 + (1 : Int32))), none, none, none, none] dX9_fits_300 rfl (congrArg (fun z : Int32 => v5 + z) (show Int32.ofInt (1) = (1 : Int32) by decide)) rfl (Nat.le_of_ble_eq_true rfl) rfl ?_
    refine x_goto 303 278 dX9_fits_303 (by decide) ?_
    exact hκ278 _ _ _ _ _ _ _ H

def lp_X9_fits_278 (κ113 : Nat → Int32 → Int32 → Int32 → Int32 → XM → Option (Int32 × XM)) (n : Nat) : Nat → Int32 → Int32 → Int32 → Int32 → Int32 → XM → Option (Int32 × XM) := x_rec (fun _ _ _ _ _ _ _ => none) (bd_X9_fits_278 κ113) n
theorem t_X9_fits_278 (l : Launch) {κ113 : Nat → Int32 → Int32 → Int32 → Int32 → XM → Option (Int32 × XM)} {q : Int32 × XM} (hκ113 : ∀ (v0 : Nat) (v1 : Int32) (v2 : Int32) (v3 : Int32) (v4 : Int32) (M : XM), κ113 v0 v1 v2 v3 v4 M = some q → AW l m_X9_fits 3 0 0 (x_Ri q) 0 0 113 [some (.ref v0), some (.int v1), some (.int v2), some (.int v3), some (.int v4), none, none, none, none, none] [] M) : ∀ (n : Nat) (v0 : Nat) (v1 : Int32) (v2 : Int32) (v3 : Int32) (v4 : Int32) (v5 : Int32) (M : XM), lp_X9_fits_278 κ113 n v0 v1 v2 v3 v4 v5 M = some q → AW l m_X9_fits 3 0 0 (x_Ri q) 0 0 278 [some (.ref v0), some (.int v1), some (.int v2), some (.int v3), some (.int v4), some (.int v5), none, none, none, none] [] M := by
  intro n
  induction n with
  | zero => intro v0 v1 v2 v3 v4 v5 M H; cases H
  | succ n ih => intro v0 v1 v2 v3 v4 v5 M H; exact tb_X9_fits_278 l hκ113 ih H
def f_X9_fits_263 (κ113 : Nat → Int32 → Int32 → Int32 → Int32 → XM → Option (Int32 × XM)) (κ148 : Nat → Int32 → Int32 → Int32 → Int32 → Int32 → XM → Option (Int32 × XM)) (κ160 : Nat → Int32 → Int32 → Int32 → Int32 → Int32 → Int32 → XM → Option (Int32 × XM)) (v0 : Nat) (v1 : Int32) (v2 : Int32) (v3 : Int32) (v4 : Int32) (v5 : Int32) (v6 : Int32) (M : XM) : Option (Int32 × XM) :=
  κ160 v0 v1 v2 v3 v4 v5 (v6 + (1 : Int32)) M
set_option maxRecDepth 20000 in
set_option maxHeartbeats 4000000 in
theorem t_X9_fits_263 (l : Launch) {κ113 : Nat → Int32 → Int32 → Int32 → Int32 → XM → Option (Int32 × XM)} {κ148 : Nat → Int32 → Int32 → Int32 → Int32 → Int32 → XM → Option (Int32 × XM)} {κ160 : Nat → Int32 → Int32 → Int32 → Int32 → Int32 → Int32 → XM → Option (Int32 × XM)} {v0 : Nat} {v1 : Int32} {v2 : Int32} {v3 : Int32} {v4 : Int32} {v5 : Int32} {v6 : Int32} {M : XM} {q : Int32 × XM} (hκ113 : ∀ (v0 : Nat) (v1 : Int32) (v2 : Int32) (v3 : Int32) (v4 : Int32) (M : XM), κ113 v0 v1 v2 v3 v4 M = some q → AW l m_X9_fits 3 0 0 (x_Ri q) 0 0 113 [some (.ref v0), some (.int v1), some (.int v2), some (.int v3), some (.int v4), none, none, none, none, none] [] M) (hκ148 : ∀ (v0 : Nat) (v1 : Int32) (v2 : Int32) (v3 : Int32) (v4 : Int32) (v5 : Int32) (M : XM), κ148 v0 v1 v2 v3 v4 v5 M = some q → AW l m_X9_fits 3 0 0 (x_Ri q) 0 0 148 [some (.ref v0), some (.int v1), some (.int v2), some (.int v3), some (.int v4), some (.int v5), none, none, none, none] [] M) (hκ160 : ∀ (v0 : Nat) (v1 : Int32) (v2 : Int32) (v3 : Int32) (v4 : Int32) (v5 : Int32) (v6 : Int32) (M : XM), κ160 v0 v1 v2 v3 v4 v5 v6 M = some q → AW l m_X9_fits 3 0 0 (x_Ri q) 0 0 160 [some (.ref v0), some (.int v1), some (.int v2), some (.int v3), some (.int v4), some (.int v5), some (.int v6), none, none, none] [] M) (H : f_X9_fits_263 κ113 κ148 κ160 v0 v1 v2 v3 v4 v5 v6 M = some q) : AW l m_X9_fits 3 0 0 (x_Ri q) 0 0 263 [some (.ref v0), some (.int v1), some (.int v2), some (.int v3), some (.int v4), some (.int v5), some (.int v6), none, none, none] [] M := by
  unfold f_X9_fits_263 at H
  refine x_iinc 263 6 (v6 + (1 : Int32)) [some (.ref v0), some (.int v1), some (.int v2), some (.int v3), some (.int v4), some (.int v5), some (.int (v6 + (1 : Int32))), none, none, none] dX9_fits_263 rfl (congrArg (fun z : Int32 => v6 + z) (show Int32.ofInt (1) = (1 : Int32) by decide)) rfl (Nat.le_of_ble_eq_true rfl) rfl ?_
  refine x_goto 266 160 dX9_fits_266 (by decide) ?_
  exact hκ160 _ _ _ _ _ _ _ _ H

def f_X9_fits_238 (κ113 : Nat → Int32 → Int32 → Int32 → Int32 → XM → Option (Int32 × XM)) (κ148 : Nat → Int32 → Int32 → Int32 → Int32 → Int32 → XM → Option (Int32 × XM)) (κ160 : Nat → Int32 → Int32 → Int32 → Int32 → Int32 → Int32 → XM → Option (Int32 × XM)) (v0 : Nat) (v1 : Int32) (v2 : Int32) (v3 : Int32) (v4 : Int32) (v5 : Int32) (v6 : Int32) (v7 : Int32) (v9 : Int32) (M : XM) : Option (Int32 × XM) :=
  if x_tag M v0 = 9 + 10 then (if x_at M (x_r M v0 36) 1 v9 = true then (if (x_i M (x_r M v0 36) v9.toNatClampNeg) ≤ (v7 + (1 : Int32)) then (f_X9_fits_263 κ113 κ148 κ160 v0 v1 v2 v3 v4 v5 v6 M) else (x_lt (x_wi M (x_r M v0 36) v9.toNatClampNeg (v7 + (1 : Int32))) (fun M72 => f_X9_fits_263 κ113 κ148 κ160 v0 v1 v2 v3 v4 v5 v6 M72))) else none) else none
set_option maxRecDepth 20000 in
set_option maxHeartbeats 4000000 in
theorem t_X9_fits_238 (l : Launch) {κ113 : Nat → Int32 → Int32 → Int32 → Int32 → XM → Option (Int32 × XM)} {κ148 : Nat → Int32 → Int32 → Int32 → Int32 → Int32 → XM → Option (Int32 × XM)} {κ160 : Nat → Int32 → Int32 → Int32 → Int32 → Int32 → Int32 → XM → Option (Int32 × XM)} {v0 : Nat} {v1 : Int32} {v2 : Int32} {v3 : Int32} {v4 : Int32} {v5 : Int32} {v6 : Int32} {v7 : Int32} {v9 : Int32} {M : XM} {q : Int32 × XM} (hκ113 : ∀ (v0 : Nat) (v1 : Int32) (v2 : Int32) (v3 : Int32) (v4 : Int32) (M : XM), κ113 v0 v1 v2 v3 v4 M = some q → AW l m_X9_fits 3 0 0 (x_Ri q) 0 0 113 [some (.ref v0), some (.int v1), some (.int v2), some (.int v3), some (.int v4), none, none, none, none, none] [] M) (hκ148 : ∀ (v0 : Nat) (v1 : Int32) (v2 : Int32) (v3 : Int32) (v4 : Int32) (v5 : Int32) (M : XM), κ148 v0 v1 v2 v3 v4 v5 M = some q → AW l m_X9_fits 3 0 0 (x_Ri q) 0 0 148 [some (.ref v0), some (.int v1), some (.int v2), some (.int v3), some (.int v4), some (.int v5), none, none, none, none] [] M) (hκ160 : ∀ (v0 : Nat) (v1 : Int32) (v2 : Int32) (v3 : Int32) (v4 : Int32) (v5 : Int32) (v6 : Int32) (M : XM), κ160 v0 v1 v2 v3 v4 v5 v6 M = some q → AW l m_X9_fits 3 0 0 (x_Ri q) 0 0 160 [some (.ref v0), some (.int v1), some (.int v2), some (.int v3), some (.int v4), some (.int v5), some (.int v6), none, none, none] [] M) (H : f_X9_fits_238 κ113 κ148 κ160 v0 v1 v2 v3 v4 v5 v6 v7 v9 M = some q) : AW l m_X9_fits 3 0 0 (x_Ri q) 0 0 238 [some (.ref v0), some (.int v1), some (.int v2), some (.int v3), some (.int v4), some (.int v5), some (.int v6), some (.int v7), none, some (.int v9)] [] M := by
  unfold f_X9_fits_238 at H
  refine x_iload 238 7 dX9_fits_238 rfl ?_
  refine x_iconst 240 (1 : Int32) dX9_fits_240 (by decide) ?_
  refine x_iadd 241 dX9_fits_241 ?_
  refine x_aload_n 242 0 dX9_fits_242 rfl rfl ?_
  obtain ⟨h69, H⟩ := x_ckp H
  refine x_getf 243 84 9 36 (.ref (x_r M v0 36)) dX9_fits_243 lk_1064 (by decide) (by decide) rfl (fun _ => rfl) h69 ?_
  refine x_iload 246 9 dX9_fits_246 rfl ?_
  obtain ⟨h70, H⟩ := x_ckp H
  refine x_iald 248 dX9_fits_248 h70 ?_
  refine x_icmp_ge 249 263 dX9_fits_249 (by decide) (fun c71 => ?_) (fun c71 => ?_)
  · replace H := x_ifp c71 H
    exact x_wk (le_s (le_s (le_s (le_s (le_s (le_s (le_s (le_n (le_s (le_n le_0)))))))))) (t_X9_fits_263 l hκ113 hκ148 hκ160 H)
  · replace H := x_ifn c71 H
    refine x_aload_n 252 0 dX9_fits_252 rfl rfl ?_
    refine x_getf 253 84 9 36 (.ref (x_r M v0 36)) dX9_fits_253 lk_1064 (by decide) (by decide) rfl (fun _ => rfl) h69 ?_
    refine x_iload 256 9 dX9_fits_256 rfl ?_
    refine x_iload 258 7 dX9_fits_258 rfl ?_
    refine x_iconst 260 (1 : Int32) dX9_fits_260 (by decide) ?_
    refine x_iadd 261 dX9_fits_261 ?_
    obtain ⟨M72, w73, H⟩ := x_lt_of H
    have h74 : x_tag M72 v0 = 9 + 10 := by rw [w73]; exact h69
    have h75 : x_at M72 (x_r M v0 36) 1 v9 = true := by rw [w73]; exact h70
    have h76 : x_tag M72 (x_r M v0 36) = 1 := by rw [w73]; exact (x_at_1 h70)
    refine x_iast' 262 dX9_fits_262 h70 w73 ?_
    exact x_wk (le_s (le_s (le_s (le_s (le_s (le_s (le_s (le_n (le_s (le_n le_0)))))))))) (t_X9_fits_263 l hκ113 hκ148 hκ160 H)

def bd_X9_fits_160 (κ113 : Nat → Int32 → Int32 → Int32 → Int32 → XM → Option (Int32 × XM)) (κ148 : Nat → Int32 → Int32 → Int32 → Int32 → Int32 → XM → Option (Int32 × XM)) (κ160 : Nat → Int32 → Int32 → Int32 → Int32 → Int32 → Int32 → XM → Option (Int32 × XM)) (v0 : Nat) (v1 : Int32) (v2 : Int32) (v3 : Int32) (v4 : Int32) (v5 : Int32) (v6 : Int32) (M : XM) : Option (Int32 × XM) :=
  if v3 ≤ v6 then (κ148 v0 v1 v2 v3 v4 (v5 + (1 : Int32)) M) else (if x_tag M v0 = 9 + 10 then (if x_at M (x_r M v0 35) 1 (((10 : Int32) * v5) + v6) = true then (x_bd (f_X9_left v0 v1 v5 (v6 + (1 : Int32)) M) (fun r63 M62 => if v3 = 0 then none else if x_tag M62 v0 = 9 + 10 then (if x_at M62 (x_r M62 v0 36) 1 ((((10 : Int32) * v5) + (10 : Int32)) + v6) = true then (if (x_i M62 (x_r M62 v0 36) ((((10 : Int32) * v5) + (10 : Int32)) + v6).toNatClampNeg) ≤ (x_i M (x_r M v0 35) (((10 : Int32) * v5) + v6).toNatClampNeg) then (f_X9_fits_238 κ113 κ148 κ160 v0 v1 v2 v3 v4 v5 v6 (x_i M (x_r M v0 35) (((10 : Int32) * v5) + v6).toNatClampNeg) (((10 : Int32) * r63) + ((v6 + (1 : Int32)) - (v6 + (1 : Int32)) / v3 * v3)) M62) else (x_lt (x_wi M62 (x_r M62 v0 36) ((((10 : Int32) * v5) + (10 : Int32)) + v6).toNatClampNeg (x_i M (x_r M v0 35) (((10 : Int32) * v5) + v6).toNatClampNeg)) (fun M77 => f_X9_fits_238 κ113 κ148 κ160 v0 v1 v2 v3 v4 v5 v6 (x_i M (x_r M v0 35) (((10 : Int32) * v5) + v6).toNatClampNeg) (((10 : Int32) * r63) + ((v6 + (1 : Int32)) - (v6 + (1 : Int32)) / v3 * v3)) M77))) else none) else none)) else none) else none)
set_option maxRecDepth 20000 in
set_option maxHeartbeats 4000000 in
theorem tb_X9_fits_160 (l : Launch) {κ113 : Nat → Int32 → Int32 → Int32 → Int32 → XM → Option (Int32 × XM)} {κ148 : Nat → Int32 → Int32 → Int32 → Int32 → Int32 → XM → Option (Int32 × XM)} {κ160 : Nat → Int32 → Int32 → Int32 → Int32 → Int32 → Int32 → XM → Option (Int32 × XM)} {v0 : Nat} {v1 : Int32} {v2 : Int32} {v3 : Int32} {v4 : Int32} {v5 : Int32} {v6 : Int32} {M : XM} {q : Int32 × XM} (hκ113 : ∀ (v0 : Nat) (v1 : Int32) (v2 : Int32) (v3 : Int32) (v4 : Int32) (M : XM), κ113 v0 v1 v2 v3 v4 M = some q → AW l m_X9_fits 3 0 0 (x_Ri q) 0 0 113 [some (.ref v0), some (.int v1), some (.int v2), some (.int v3), some (.int v4), none, none, none, none, none] [] M) (hκ148 : ∀ (v0 : Nat) (v1 : Int32) (v2 : Int32) (v3 : Int32) (v4 : Int32) (v5 : Int32) (M : XM), κ148 v0 v1 v2 v3 v4 v5 M = some q → AW l m_X9_fits 3 0 0 (x_Ri q) 0 0 148 [some (.ref v0), some (.int v1), some (.int v2), some (.int v3), some (.int v4), some (.int v5), none, none, none, none] [] M) (hκ160 : ∀ (v0 : Nat) (v1 : Int32) (v2 : Int32) (v3 : Int32) (v4 : Int32) (v5 : Int32) (v6 : Int32) (M : XM), κ160 v0 v1 v2 v3 v4 v5 v6 M = some q → AW l m_X9_fits 3 0 0 (x_Ri q) 0 0 160 [some (.ref v0), some (.int v1), some (.int v2), some (.int v3), some (.int v4), some (.int v5), some (.int v6), none, none, none] [] M) (H : bd_X9_fits_160 κ113 κ148 κ160 v0 v1 v2 v3 v4 v5 v6 M = some q) : AW l m_X9_fits 3 0 0 (x_Ri q) 0 0 160 [some (.ref v0), some (.int v1), some (.int v2), some (.int v3), some (.int v4), some (.int v5), some (.int v6), none, none, none] [] M := by
  unfold bd_X9_fits_160 at H
  refine x_iload 160 6 dX9_fits_160 rfl ?_
  refine x_iload_n 162 3 dX9_fits_162 rfl rfl ?_
  refine x_icmp_ge 163 269 dX9_fits_163 (by decide) (fun c59 => ?_) (fun c59 => ?_)
  · replace H := x_ifp c59 H
    refine x_iinc 269 5 (v5 + (1 : Int32)) [some (.ref v0), some (.int v1), some (.int v2), some (.int v3), some (.int v4), some (.int (v5 + (1 : Int32))), some (.int v6), none, none, none] dX9_fits_269 rfl (congrArg (fun z : Int32 => v5 + z) (show Int32.ofInt (1) = (1 : Int32) by decide)) rfl (Nat.le_of_ble_eq_true rfl) rfl ?_
    refine x_goto 272 148 dX9_fits_272 (by decide) ?_
    exact x_wk (le_s (le_s (le_s (le_s (le_s (le_s (le_n (le_s (le_s (le_s le_0)))))))))) (hκ148 _ _ _ _ _ _ _ H)
  · replace H := x_ifn c59 H
    refine x_aload_n 166 0 dX9_fits_166 rfl rfl ?_
    obtain ⟨h60, H⟩ := x_ckp H
    refine x_getf 167 81 9 35 (.ref (x_r M v0 35)) dX9_fits_167 lk_1063 (by decide) (by decide) rfl (fun _ => rfl) h60 ?_
    refine x_bipush 170 (10 : Int32) dX9_fits_170 (by decide) ?_
    refine x_iload 172 5 dX9_fits_172 rfl ?_
    refine x_imul 174 dX9_fits_174 ?_
    refine x_iload 175 6 dX9_fits_175 rfl ?_
    refine x_iadd 177 dX9_fits_177 ?_
    obtain ⟨h61, H⟩ := x_ckp H
    refine x_iald 178 dX9_fits_178 h61 ?_
    refine x_istore 179 7 [some (.ref v0), some (.int v1), some (.int v2), some (.int v3), some (.int v4), some (.int v5), some (.int v6), some (.int (x_i M (x_r M v0 35) (((10 : Int32) * v5) + v6).toNatClampNeg)), none, none] dX9_fits_179 rfl (Nat.le_of_ble_eq_true rfl) rfl ?_
    refine x_bipush 181 (10 : Int32) dX9_fits_181 (by decide) ?_
    refine x_iload 183 5 dX9_fits_183 rfl ?_
    refine x_imul 185 dX9_fits_185 ?_
    refine x_bipush 186 (10 : Int32) dX9_fits_186 (by decide) ?_
    refine x_iadd 188 dX9_fits_188 ?_
    refine x_iload 189 6 dX9_fits_189 rfl ?_
    refine x_iadd 191 dX9_fits_191 ?_
    refine x_istore 192 8 [some (.ref v0), some (.int v1), some (.int v2), some (.int v3), some (.int v4), some (.int v5), some (.int v6), some (.int (x_i M (x_r M v0 35) (((10 : Int32) * v5) + v6).toNatClampNeg)), some (.int ((((10 : Int32) * v5) + (10 : Int32)) + v6)), none] dX9_fits_192 rfl (Nat.le_of_ble_eq_true rfl) rfl ?_
    refine x_bipush 194 (10 : Int32) dX9_fits_194 (by decide) ?_
    refine x_aload_n 196 0 dX9_fits_196 rfl rfl ?_
    refine x_iload_n 197 1 dX9_fits_197 rfl rfl ?_
    refine x_iload 198 5 dX9_fits_198 rfl ?_
    refine x_iload 200 6 dX9_fits_200 rfl ?_
    refine x_iconst 202 (1 : Int32) dX9_fits_202 (by decide) ?_
    refine x_iadd 203 dX9_fits_203 ?_
    obtain ⟨r63, M62, e64, H⟩ := x_bd_of H
    refine x_callV 204 183 9 [(.int v1), (.int v5), (.int (v6 + (1 : Int32)))] [(.int (10 : Int32))] dX9_fits_204 (ct_X9_left l e64) lk_1271 lk_1273 lk_53 (by decide) h60 lk_94 lk_1274 ⟨cn_X9_left, (by decide), by decide⟩ rfl (Nat.le_of_ble_eq_true rfl) (Nat.le_of_ble_eq_true rfl) (Nat.le_of_ble_eq_true rfl) (x_ri ?_)
    refine x_imul 207 dX9_fits_207 ?_
    refine x_iload 208 6 dX9_fits_208 rfl ?_
    refine x_iconst 210 (1 : Int32) dX9_fits_210 (by decide) ?_
    refine x_iadd 211 dX9_fits_211 ?_
    refine x_iload_n 212 3 dX9_fits_212 rfl rfl ?_
    obtain ⟨h65, H⟩ := x_cnz H
    refine x_irem 213 dX9_fits_213 h65 ?_
    refine x_iadd 214 dX9_fits_214 ?_
    refine x_istore 215 9 [some (.ref v0), some (.int v1), some (.int v2), some (.int v3), some (.int v4), some (.int v5), some (.int v6), some (.int (x_i M (x_r M v0 35) (((10 : Int32) * v5) + v6).toNatClampNeg)), some (.int ((((10 : Int32) * v5) + (10 : Int32)) + v6)), some (.int (((10 : Int32) * r63) + ((v6 + (1 : Int32)) - (v6 + (1 : Int32)) / v3 * v3)))] dX9_fits_215 rfl (Nat.le_of_ble_eq_true rfl) rfl ?_
    refine x_iload 217 7 dX9_fits_217 rfl ?_
    refine x_aload_n 219 0 dX9_fits_219 rfl rfl ?_
    obtain ⟨h66, H⟩ := x_ckp H
    refine x_getf 220 84 9 36 (.ref (x_r M62 v0 36)) dX9_fits_220 lk_1064 (by decide) (by decide) rfl (fun _ => rfl) h66 ?_
    refine x_iload 223 8 dX9_fits_223 rfl ?_
    obtain ⟨h67, H⟩ := x_ckp H
    refine x_iald 225 dX9_fits_225 h67 ?_
    refine x_icmp_ge 226 238 dX9_fits_226 (by decide) (fun c68 => ?_) (fun c68 => ?_)
    · replace H := x_ifp c68 H
      exact x_wk (le_s (le_s (le_s (le_s (le_s (le_s (le_s (le_s (le_n (le_s le_0)))))))))) (t_X9_fits_238 l hκ113 hκ148 hκ160 H)
    · replace H := x_ifn c68 H
      refine x_aload_n 229 0 dX9_fits_229 rfl rfl ?_
      refine x_getf 230 84 9 36 (.ref (x_r M62 v0 36)) dX9_fits_230 lk_1064 (by decide) (by decide) rfl (fun _ => rfl) h66 ?_
      refine x_iload 233 8 dX9_fits_233 rfl ?_
      refine x_iload 235 7 dX9_fits_235 rfl ?_
      obtain ⟨M77, w78, H⟩ := x_lt_of H
      have h79 : x_tag M77 v0 = 9 + 10 := by rw [w78]; exact h66
      have h80 : x_at M77 (x_r M62 v0 36) 1 ((((10 : Int32) * v5) + (10 : Int32)) + v6) = true := by rw [w78]; exact h67
      have h81 : x_tag M77 (x_r M62 v0 36) = 1 := by rw [w78]; exact (x_at_1 h67)
      refine x_iast' 237 dX9_fits_237 h67 w78 ?_
      exact x_wk (le_s (le_s (le_s (le_s (le_s (le_s (le_s (le_s (le_n (le_s le_0)))))))))) (t_X9_fits_238 l hκ113 hκ148 hκ160 H)

def lp_X9_fits_160 (κ113 : Nat → Int32 → Int32 → Int32 → Int32 → XM → Option (Int32 × XM)) (κ148 : Nat → Int32 → Int32 → Int32 → Int32 → Int32 → XM → Option (Int32 × XM)) (n : Nat) : Nat → Int32 → Int32 → Int32 → Int32 → Int32 → Int32 → XM → Option (Int32 × XM) := x_rec (fun _ _ _ _ _ _ _ _ => none) (bd_X9_fits_160 κ113 κ148) n
theorem t_X9_fits_160 (l : Launch) {κ113 : Nat → Int32 → Int32 → Int32 → Int32 → XM → Option (Int32 × XM)} {κ148 : Nat → Int32 → Int32 → Int32 → Int32 → Int32 → XM → Option (Int32 × XM)} {q : Int32 × XM} (hκ113 : ∀ (v0 : Nat) (v1 : Int32) (v2 : Int32) (v3 : Int32) (v4 : Int32) (M : XM), κ113 v0 v1 v2 v3 v4 M = some q → AW l m_X9_fits 3 0 0 (x_Ri q) 0 0 113 [some (.ref v0), some (.int v1), some (.int v2), some (.int v3), some (.int v4), none, none, none, none, none] [] M) (hκ148 : ∀ (v0 : Nat) (v1 : Int32) (v2 : Int32) (v3 : Int32) (v4 : Int32) (v5 : Int32) (M : XM), κ148 v0 v1 v2 v3 v4 v5 M = some q → AW l m_X9_fits 3 0 0 (x_Ri q) 0 0 148 [some (.ref v0), some (.int v1), some (.int v2), some (.int v3), some (.int v4), some (.int v5), none, none, none, none] [] M) : ∀ (n : Nat) (v0 : Nat) (v1 : Int32) (v2 : Int32) (v3 : Int32) (v4 : Int32) (v5 : Int32) (v6 : Int32) (M : XM), lp_X9_fits_160 κ113 κ148 n v0 v1 v2 v3 v4 v5 v6 M = some q → AW l m_X9_fits 3 0 0 (x_Ri q) 0 0 160 [some (.ref v0), some (.int v1), some (.int v2), some (.int v3), some (.int v4), some (.int v5), some (.int v6), none, none, none] [] M := by
  intro n
  induction n with
  | zero => intro v0 v1 v2 v3 v4 v5 v6 M H; cases H
  | succ n ih => intro v0 v1 v2 v3 v4 v5 v6 M H; exact tb_X9_fits_160 l hκ113 hκ148 ih H
def bd_X9_fits_148 (κ113 : Nat → Int32 → Int32 → Int32 → Int32 → XM → Option (Int32 × XM)) (κ148 : Nat → Int32 → Int32 → Int32 → Int32 → Int32 → XM → Option (Int32 × XM)) (v0 : Nat) (v1 : Int32) (v2 : Int32) (v3 : Int32) (v4 : Int32) (v5 : Int32) (M : XM) : Option (Int32 × XM) :=
  if x_tag M v0 = 9 + 10 then (if (x_i M v0 1) ≤ v5 then (lp_X9_fits_278 κ113 x_fuel v0 v1 v2 v3 v4 (0 : Int32) M) else (lp_X9_fits_160 κ113 κ148 x_fuel v0 v1 v2 v3 v4 v5 (0 : Int32) M)) else none
set_option maxRecDepth 20000 in
set_option maxHeartbeats 4000000 in
theorem tb_X9_fits_148 (l : Launch) {κ113 : Nat → Int32 → Int32 → Int32 → Int32 → XM → Option (Int32 × XM)} {κ148 : Nat → Int32 → Int32 → Int32 → Int32 → Int32 → XM → Option (Int32 × XM)} {v0 : Nat} {v1 : Int32} {v2 : Int32} {v3 : Int32} {v4 : Int32} {v5 : Int32} {M : XM} {q : Int32 × XM} (hκ113 : ∀ (v0 : Nat) (v1 : Int32) (v2 : Int32) (v3 : Int32) (v4 : Int32) (M : XM), κ113 v0 v1 v2 v3 v4 M = some q → AW l m_X9_fits 3 0 0 (x_Ri q) 0 0 113 [some (.ref v0), some (.int v1), some (.int v2), some (.int v3), some (.int v4), none, none, none, none, none] [] M) (hκ148 : ∀ (v0 : Nat) (v1 : Int32) (v2 : Int32) (v3 : Int32) (v4 : Int32) (v5 : Int32) (M : XM), κ148 v0 v1 v2 v3 v4 v5 M = some q → AW l m_X9_fits 3 0 0 (x_Ri q) 0 0 148 [some (.ref v0), some (.int v1), some (.int v2), some (.int v3), some (.int v4), some (.int v5), none, none, none, none] [] M) (H : bd_X9_fits_148 κ113 κ148 v0 v1 v2 v3 v4 v5 M = some q) : AW l m_X9_fits 3 0 0 (x_Ri q) 0 0 148 [some (.ref v0), some (.int v1), some (.int v2), some (.int v3), some (.int v4), some (.int v5), none, none, none, none] [] M := by
  unfold bd_X9_fits_148 at H
  refine x_iload 148 5 dX9_fits_148 rfl ?_
  refine x_aload_n 150 0 dX9_fits_150 rfl rfl ?_
  obtain ⟨h46, H⟩ := x_ckp H
  refine x_getf 151 7 9 1 (.int (x_i M v0 1)) dX9_fits_151 lk_1029 (by decide) (by decide) rfl (fun _ => rfl) h46 ?_
  refine x_icmp_ge 154 275 dX9_fits_154 (by decide) (fun c47 => ?_) (fun c47 => ?_)
  · replace H := x_ifp c47 H
    refine x_iconst 275 (0 : Int32) dX9_fits_275 (by decide) ?_
    refine x_istore 276 5 [some (.ref v0), some (.int v1), some (.int v2), some (.int v3), some (.int v4), some (.int (0 : Int32)), none, none, none, none] dX9_fits_276 rfl (Nat.le_of_ble_eq_true rfl) rfl ?_
    exact t_X9_fits_278 l hκ113 _ _ _ _ _ _ _ _ H
  · replace H := x_ifn c47 H
    refine x_iconst 157 (0 : Int32) dX9_fits_157 (by decide) ?_
    refine x_istore 158 6 [some (.ref v0), some (.int v1), some (.int v2), some (.int v3), some (.int v4), some (.int v5), some (.int (0 : Int32)), none, none, none] dX9_fits_158 rfl (Nat.le_of_ble_eq_true rfl) rfl ?_
    exact t_X9_fits_160 l hκ113 hκ148 _ _ _ _ _ _ _ _ _ H

def lp_X9_fits_148 (κ113 : Nat → Int32 → Int32 → Int32 → Int32 → XM → Option (Int32 × XM)) (n : Nat) : Nat → Int32 → Int32 → Int32 → Int32 → Int32 → XM → Option (Int32 × XM) := x_rec (fun _ _ _ _ _ _ _ => none) (bd_X9_fits_148 κ113) n
theorem t_X9_fits_148 (l : Launch) {κ113 : Nat → Int32 → Int32 → Int32 → Int32 → XM → Option (Int32 × XM)} {q : Int32 × XM} (hκ113 : ∀ (v0 : Nat) (v1 : Int32) (v2 : Int32) (v3 : Int32) (v4 : Int32) (M : XM), κ113 v0 v1 v2 v3 v4 M = some q → AW l m_X9_fits 3 0 0 (x_Ri q) 0 0 113 [some (.ref v0), some (.int v1), some (.int v2), some (.int v3), some (.int v4), none, none, none, none, none] [] M) : ∀ (n : Nat) (v0 : Nat) (v1 : Int32) (v2 : Int32) (v3 : Int32) (v4 : Int32) (v5 : Int32) (M : XM), lp_X9_fits_148 κ113 n v0 v1 v2 v3 v4 v5 M = some q → AW l m_X9_fits 3 0 0 (x_Ri q) 0 0 148 [some (.ref v0), some (.int v1), some (.int v2), some (.int v3), some (.int v4), some (.int v5), none, none, none, none] [] M := by
  intro n
  induction n with
  | zero => intro v0 v1 v2 v3 v4 v5 M H; cases H
  | succ n ih => intro v0 v1 v2 v3 v4 v5 M H; exact tb_X9_fits_148 l hκ113 ih H
def bd_X9_fits_122 (κ113 : Nat → Int32 → Int32 → Int32 → Int32 → XM → Option (Int32 × XM)) (κ122 : Nat → Int32 → Int32 → Int32 → Int32 → Int32 → XM → Option (Int32 × XM)) (v0 : Nat) (v1 : Int32) (v2 : Int32) (v3 : Int32) (v4 : Int32) (v5 : Int32) (M : XM) : Option (Int32 × XM) :=
  if (2010 : Int32) ≤ v5 then (lp_X9_fits_148 κ113 x_fuel v0 v1 v2 v3 v4 (0 : Int32) M) else (if x_tag M v0 = 9 + 10 then (if x_at M (x_r M v0 36) 1 v5 = true then (x_lt (x_wi M (x_r M v0 36) v5.toNatClampNeg (9 : Int32)) (fun M84 => κ122 v0 v1 v2 v3 v4 (v5 + (1 : Int32)) M84)) else none) else none)
set_option maxRecDepth 20000 in
set_option maxHeartbeats 4000000 in
theorem tb_X9_fits_122 (l : Launch) {κ113 : Nat → Int32 → Int32 → Int32 → Int32 → XM → Option (Int32 × XM)} {κ122 : Nat → Int32 → Int32 → Int32 → Int32 → Int32 → XM → Option (Int32 × XM)} {v0 : Nat} {v1 : Int32} {v2 : Int32} {v3 : Int32} {v4 : Int32} {v5 : Int32} {M : XM} {q : Int32 × XM} (hκ113 : ∀ (v0 : Nat) (v1 : Int32) (v2 : Int32) (v3 : Int32) (v4 : Int32) (M : XM), κ113 v0 v1 v2 v3 v4 M = some q → AW l m_X9_fits 3 0 0 (x_Ri q) 0 0 113 [some (.ref v0), some (.int v1), some (.int v2), some (.int v3), some (.int v4), none, none, none, none, none] [] M) (hκ122 : ∀ (v0 : Nat) (v1 : Int32) (v2 : Int32) (v3 : Int32) (v4 : Int32) (v5 : Int32) (M : XM), κ122 v0 v1 v2 v3 v4 v5 M = some q → AW l m_X9_fits 3 0 0 (x_Ri q) 0 0 122 [some (.ref v0), some (.int v1), some (.int v2), some (.int v3), some (.int v4), some (.int v5), none, none, none, none] [] M) (H : bd_X9_fits_122 κ113 κ122 v0 v1 v2 v3 v4 v5 M = some q) : AW l m_X9_fits 3 0 0 (x_Ri q) 0 0 122 [some (.ref v0), some (.int v1), some (.int v2), some (.int v3), some (.int v4), some (.int v5), none, none, none, none] [] M := by
  unfold bd_X9_fits_122 at H
  refine x_iload 122 5 dX9_fits_122 rfl ?_
  refine x_sipush 124 (2010 : Int32) dX9_fits_124 (by decide) ?_
  refine x_icmp_ge 127 145 dX9_fits_127 (by decide) (fun c45 => ?_) (fun c45 => ?_)
  · replace H := x_ifp c45 H
    refine x_iconst 145 (0 : Int32) dX9_fits_145 (by decide) ?_
    refine x_istore 146 5 [some (.ref v0), some (.int v1), some (.int v2), some (.int v3), some (.int v4), some (.int (0 : Int32)), none, none, none, none] dX9_fits_146 rfl (Nat.le_of_ble_eq_true rfl) rfl ?_
    exact t_X9_fits_148 l hκ113 _ _ _ _ _ _ _ _ H
  · replace H := x_ifn c45 H
    refine x_aload_n 130 0 dX9_fits_130 rfl rfl ?_
    obtain ⟨h82, H⟩ := x_ckp H
    refine x_getf 131 84 9 36 (.ref (x_r M v0 36)) dX9_fits_131 lk_1064 (by decide) (by decide) rfl (fun _ => rfl) h82 ?_
    refine x_iload 134 5 dX9_fits_134 rfl ?_
    refine x_bipush 136 (9 : Int32) dX9_fits_136 (by decide) ?_
    obtain ⟨h83, H⟩ := x_ckp H
    obtain ⟨M84, w85, H⟩ := x_lt_of H
    have h86 : x_tag M84 v0 = 9 + 10 := by rw [w85]; exact h82
    have h87 : x_at M84 (x_r M v0 36) 1 v5 = true := by rw [w85]; exact h83
    have h88 : x_tag M84 (x_r M v0 36) = 1 := by rw [w85]; exact (x_at_1 h83)
    refine x_iast' 138 dX9_fits_138 h83 w85 ?_
    refine x_iinc 139 5 (v5 + (1 : Int32)) [some (.ref v0), some (.int v1), some (.int v2), some (.int v3), some (.int v4), some (.int (v5 + (1 : Int32))), none, none, none, none] dX9_fits_139 rfl (congrArg (fun z : Int32 => v5 + z) (show Int32.ofInt (1) = (1 : Int32) by decide)) rfl (Nat.le_of_ble_eq_true rfl) rfl ?_
    refine x_goto 142 122 dX9_fits_142 (by decide) ?_
    exact hκ122 _ _ _ _ _ _ _ H

def lp_X9_fits_122 (κ113 : Nat → Int32 → Int32 → Int32 → Int32 → XM → Option (Int32 × XM)) (n : Nat) : Nat → Int32 → Int32 → Int32 → Int32 → Int32 → XM → Option (Int32 × XM) := x_rec (fun _ _ _ _ _ _ _ => none) (bd_X9_fits_122 κ113) n
theorem t_X9_fits_122 (l : Launch) {κ113 : Nat → Int32 → Int32 → Int32 → Int32 → XM → Option (Int32 × XM)} {q : Int32 × XM} (hκ113 : ∀ (v0 : Nat) (v1 : Int32) (v2 : Int32) (v3 : Int32) (v4 : Int32) (M : XM), κ113 v0 v1 v2 v3 v4 M = some q → AW l m_X9_fits 3 0 0 (x_Ri q) 0 0 113 [some (.ref v0), some (.int v1), some (.int v2), some (.int v3), some (.int v4), none, none, none, none, none] [] M) : ∀ (n : Nat) (v0 : Nat) (v1 : Int32) (v2 : Int32) (v3 : Int32) (v4 : Int32) (v5 : Int32) (M : XM), lp_X9_fits_122 κ113 n v0 v1 v2 v3 v4 v5 M = some q → AW l m_X9_fits 3 0 0 (x_Ri q) 0 0 122 [some (.ref v0), some (.int v1), some (.int v2), some (.int v3), some (.int v4), some (.int v5), none, none, none, none] [] M := by
  intro n
  induction n with
  | zero => intro v0 v1 v2 v3 v4 v5 M H; cases H
  | succ n ih => intro v0 v1 v2 v3 v4 v5 M H; exact tb_X9_fits_122 l hκ113 ih H
def bd_X9_fits_113 (κ113 : Nat → Int32 → Int32 → Int32 → Int32 → XM → Option (Int32 × XM)) (v0 : Nat) (v1 : Int32) (v2 : Int32) (v3 : Int32) (v4 : Int32) (M : XM) : Option (Int32 × XM) :=
  if v2 ≤ v4 then (lp_X9_fits_319 x_fuel v0 v2 v3 (9 : Int32) (0 : Int32) M) else (lp_X9_fits_122 κ113 x_fuel v0 v1 v2 v3 v4 (0 : Int32) M)
set_option maxRecDepth 20000 in
set_option maxHeartbeats 4000000 in
theorem tb_X9_fits_113 (l : Launch) {κ113 : Nat → Int32 → Int32 → Int32 → Int32 → XM → Option (Int32 × XM)} {v0 : Nat} {v1 : Int32} {v2 : Int32} {v3 : Int32} {v4 : Int32} {M : XM} {q : Int32 × XM} (hκ113 : ∀ (v0 : Nat) (v1 : Int32) (v2 : Int32) (v3 : Int32) (v4 : Int32) (M : XM), κ113 v0 v1 v2 v3 v4 M = some q → AW l m_X9_fits 3 0 0 (x_Ri q) 0 0 113 [some (.ref v0), some (.int v1), some (.int v2), some (.int v3), some (.int v4), none, none, none, none, none] [] M) (H : bd_X9_fits_113 κ113 v0 v1 v2 v3 v4 M = some q) : AW l m_X9_fits 3 0 0 (x_Ri q) 0 0 113 [some (.ref v0), some (.int v1), some (.int v2), some (.int v3), some (.int v4), none, none, none, none, none] [] M := by
  unfold bd_X9_fits_113 at H
  refine x_iload 113 4 dX9_fits_113 rfl ?_
  refine x_iload_n 115 2 dX9_fits_115 rfl rfl ?_
  refine x_icmp_ge 116 312 dX9_fits_116 (by decide) (fun c38 => ?_) (fun c38 => ?_)
  · replace H := x_ifp c38 H
    refine x_bipush 312 (9 : Int32) dX9_fits_312 (by decide) ?_
    refine x_istore 314 4 [some (.ref v0), some (.int v1), some (.int v2), some (.int v3), some (.int (9 : Int32)), none, none, none, none, none] dX9_fits_314 rfl (Nat.le_of_ble_eq_true rfl) rfl ?_
    refine x_iconst 316 (0 : Int32) dX9_fits_316 (by decide) ?_
    refine x_istore 317 5 [some (.ref v0), some (.int v1), some (.int v2), some (.int v3), some (.int (9 : Int32)), some (.int (0 : Int32)), none, none, none, none] dX9_fits_317 rfl (Nat.le_of_ble_eq_true rfl) rfl ?_
    exact x_wk (le_s (le_n (le_s (le_s (le_s (le_s (le_s (le_s (le_s (le_s le_0)))))))))) (t_X9_fits_319 l _ _ _ _ _ _ _ H)
  · replace H := x_ifn c38 H
    refine x_iconst 119 (0 : Int32) dX9_fits_119 (by decide) ?_
    refine x_istore 120 5 [some (.ref v0), some (.int v1), some (.int v2), some (.int v3), some (.int v4), some (.int (0 : Int32)), none, none, none, none] dX9_fits_120 rfl (Nat.le_of_ble_eq_true rfl) rfl ?_
    exact t_X9_fits_122 l hκ113 _ _ _ _ _ _ _ _ H

def lp_X9_fits_113 (n : Nat) : Nat → Int32 → Int32 → Int32 → Int32 → XM → Option (Int32 × XM) := x_rec (fun _ _ _ _ _ _ => none) (bd_X9_fits_113) n
theorem t_X9_fits_113 (l : Launch) {q : Int32 × XM} : ∀ (n : Nat) (v0 : Nat) (v1 : Int32) (v2 : Int32) (v3 : Int32) (v4 : Int32) (M : XM), lp_X9_fits_113 n v0 v1 v2 v3 v4 M = some q → AW l m_X9_fits 3 0 0 (x_Ri q) 0 0 113 [some (.ref v0), some (.int v1), some (.int v2), some (.int v3), some (.int v4), none, none, none, none, none] [] M := by
  intro n
  induction n with
  | zero => intro v0 v1 v2 v3 v4 M H; cases H
  | succ n ih => intro v0 v1 v2 v3 v4 M H; exact tb_X9_fits_113 l ih H
def bd_X9_fits_63 (κ63 : Nat → Int32 → Int32 → Int32 → Int32 → XM → Option (Int32 × XM)) (v0 : Nat) (v1 : Int32) (v2 : Int32) (v3 : Int32) (v4 : Int32) (M : XM) : Option (Int32 × XM) :=
  if (2010 : Int32) ≤ v4 then (if x_tag M v0 = 9 + 10 then (if x_at M (x_r M v0 12) 1 v1 = true then (if x_at M (x_r M v0 14) 1 v1 = true then (if v3 = 0 then none else if x_at M (x_r M v0 35) 1 (((10 : Int32) * (x_i M (x_r M v0 12) v1.toNatClampNeg)) + ((x_i M (x_r M v0 14) v1.toNatClampNeg) - (x_i M (x_r M v0 14) v1.toNatClampNeg) / v3 * v3)) = true then (x_lt (x_wi M (x_r M v0 35) (((10 : Int32) * (x_i M (x_r M v0 12) v1.toNatClampNeg)) + ((x_i M (x_r M v0 14) v1.toNatClampNeg) - (x_i M (x_r M v0 14) v1.toNatClampNeg) / v3 * v3)).toNatClampNeg (0 : Int32)) (fun M29 => lp_X9_fits_113 x_fuel v0 v1 v2 v3 (0 : Int32) M29)) else none) else none) else none) else none) else (if x_tag M v0 = 9 + 10 then (if x_at M (x_r M v0 35) 1 v4 = true then (x_lt (x_wi M (x_r M v0 35) v4.toNatClampNeg (9 : Int32)) (fun M91 => κ63 v0 v1 v2 v3 (v4 + (1 : Int32)) M91)) else none) else none)
set_option maxRecDepth 20000 in
set_option maxHeartbeats 4000000 in
theorem tb_X9_fits_63 (l : Launch) {κ63 : Nat → Int32 → Int32 → Int32 → Int32 → XM → Option (Int32 × XM)} {v0 : Nat} {v1 : Int32} {v2 : Int32} {v3 : Int32} {v4 : Int32} {M : XM} {q : Int32 × XM} (hκ63 : ∀ (v0 : Nat) (v1 : Int32) (v2 : Int32) (v3 : Int32) (v4 : Int32) (M : XM), κ63 v0 v1 v2 v3 v4 M = some q → AW l m_X9_fits 3 0 0 (x_Ri q) 0 0 63 [some (.ref v0), some (.int v1), some (.int v2), some (.int v3), some (.int v4), none, none, none, none, none] [] M) (H : bd_X9_fits_63 κ63 v0 v1 v2 v3 v4 M = some q) : AW l m_X9_fits 3 0 0 (x_Ri q) 0 0 63 [some (.ref v0), some (.int v1), some (.int v2), some (.int v3), some (.int v4), none, none, none, none, none] [] M := by
  unfold bd_X9_fits_63 at H
  refine x_iload 63 4 dX9_fits_63 rfl ?_
  refine x_sipush 65 (2010 : Int32) dX9_fits_65 (by decide) ?_
  refine x_icmp_ge 68 86 dX9_fits_68 (by decide) (fun c23 => ?_) (fun c23 => ?_)
  · replace H := x_ifp c23 H
    refine x_aload_n 86 0 dX9_fits_86 rfl rfl ?_
    obtain ⟨h24, H⟩ := x_ckp H
    refine x_getf 87 81 9 35 (.ref (x_r M v0 35)) dX9_fits_87 lk_1063 (by decide) (by decide) rfl (fun _ => rfl) h24 ?_
    refine x_bipush 90 (10 : Int32) dX9_fits_90 (by decide) ?_
    refine x_aload_n 92 0 dX9_fits_92 rfl rfl ?_
    refine x_getf 93 38 9 12 (.ref (x_r M v0 12)) dX9_fits_93 lk_1040 (by decide) (by decide) rfl (fun _ => rfl) h24 ?_
    refine x_iload_n 96 1 dX9_fits_96 rfl rfl ?_
    obtain ⟨h25, H⟩ := x_ckp H
    refine x_iald 97 dX9_fits_97 h25 ?_
    refine x_imul 98 dX9_fits_98 ?_
    refine x_aload_n 99 0 dX9_fits_99 rfl rfl ?_
    refine x_getf 100 44 9 14 (.ref (x_r M v0 14)) dX9_fits_100 lk_1042 (by decide) (by decide) rfl (fun _ => rfl) h24 ?_
    refine x_iload_n 103 1 dX9_fits_103 rfl rfl ?_
    obtain ⟨h26, H⟩ := x_ckp H
    refine x_iald 104 dX9_fits_104 h26 ?_
    refine x_iload_n 105 3 dX9_fits_105 rfl rfl ?_
    obtain ⟨h27, H⟩ := x_cnz H
    refine x_irem 106 dX9_fits_106 h27 ?_
    refine x_iadd 107 dX9_fits_107 ?_
    refine x_iconst 108 (0 : Int32) dX9_fits_108 (by decide) ?_
    obtain ⟨h28, H⟩ := x_ckp H
    obtain ⟨M29, w30, H⟩ := x_lt_of H
    have h31 : x_tag M29 v0 = 9 + 10 := by rw [w30]; exact h24
    have h32 : x_at M29 (x_r M v0 12) 1 v1 = true := by rw [w30]; exact h25
    have h33 : x_tag M29 (x_r M v0 12) = 1 := by rw [w30]; exact (x_at_1 h25)
    have h34 : x_at M29 (x_r M v0 14) 1 v1 = true := by rw [w30]; exact h26
    have h35 : x_tag M29 (x_r M v0 14) = 1 := by rw [w30]; exact (x_at_1 h26)
    have h36 : x_at M29 (x_r M v0 35) 1 (((10 : Int32) * (x_i M (x_r M v0 12) v1.toNatClampNeg)) + ((x_i M (x_r M v0 14) v1.toNatClampNeg) - (x_i M (x_r M v0 14) v1.toNatClampNeg) / v3 * v3)) = true := by rw [w30]; exact h28
    have h37 : x_tag M29 (x_r M v0 35) = 1 := by rw [w30]; exact (x_at_1 h28)
    refine x_iast' 109 dX9_fits_109 h28 w30 ?_
    refine x_iconst 110 (0 : Int32) dX9_fits_110 (by decide) ?_
    refine x_istore 111 4 [some (.ref v0), some (.int v1), some (.int v2), some (.int v3), some (.int (0 : Int32)), none, none, none, none, none] dX9_fits_111 rfl (Nat.le_of_ble_eq_true rfl) rfl ?_
    exact t_X9_fits_113 l _ _ _ _ _ _ _ H
  · replace H := x_ifn c23 H
    refine x_aload_n 71 0 dX9_fits_71 rfl rfl ?_
    obtain ⟨h89, H⟩ := x_ckp H
    refine x_getf 72 81 9 35 (.ref (x_r M v0 35)) dX9_fits_72 lk_1063 (by decide) (by decide) rfl (fun _ => rfl) h89 ?_
    refine x_iload 75 4 dX9_fits_75 rfl ?_
    refine x_bipush 77 (9 : Int32) dX9_fits_77 (by decide) ?_
    obtain ⟨h90, H⟩ := x_ckp H
    obtain ⟨M91, w92, H⟩ := x_lt_of H
    have h93 : x_tag M91 v0 = 9 + 10 := by rw [w92]; exact h89
    have h94 : x_at M91 (x_r M v0 35) 1 v4 = true := by rw [w92]; exact h90
    have h95 : x_tag M91 (x_r M v0 35) = 1 := by rw [w92]; exact (x_at_1 h90)
    refine x_iast' 79 dX9_fits_79 h90 w92 ?_
    refine x_iinc 80 4 (v4 + (1 : Int32)) [some (.ref v0), some (.int v1), some (.int v2), some (.int v3), some (.int (v4 + (1 : Int32))), none, none, none, none, none] dX9_fits_80 rfl (congrArg (fun z : Int32 => v4 + z) (show Int32.ofInt (1) = (1 : Int32) by decide)) rfl (Nat.le_of_ble_eq_true rfl) rfl ?_
    refine x_goto 83 63 dX9_fits_83 (by decide) ?_
    exact hκ63 _ _ _ _ _ _ H

def lp_X9_fits_63 (n : Nat) : Nat → Int32 → Int32 → Int32 → Int32 → XM → Option (Int32 × XM) := x_rec (fun _ _ _ _ _ _ => none) (bd_X9_fits_63) n
theorem t_X9_fits_63 (l : Launch) {q : Int32 × XM} : ∀ (n : Nat) (v0 : Nat) (v1 : Int32) (v2 : Int32) (v3 : Int32) (v4 : Int32) (M : XM), lp_X9_fits_63 n v0 v1 v2 v3 v4 M = some q → AW l m_X9_fits 3 0 0 (x_Ri q) 0 0 63 [some (.ref v0), some (.int v1), some (.int v2), some (.int v3), some (.int v4), none, none, none, none, none] [] M := by
  intro n
  induction n with
  | zero => intro v0 v1 v2 v3 v4 M H; cases H
  | succ n ih => intro v0 v1 v2 v3 v4 M H; exact tb_X9_fits_63 l ih H
def f_X9_fits (v0 : Nat) (v1 : Int32) (v2 : Int32) (M : XM) : Option (Int32 × XM) :=
  if x_tag M v0 = 9 + 10 then (x_bd (f_X9_isCounter v0 v1 M) (fun r3 M2 => if r3 = 0 then (if x_tag M2 v0 = 9 + 10 then (x_bd (f_X9_noTen v0 (-1 : Int32) M2) (fun r8 M7 => some (r8, M7))) else none) else (if v2 < 0 then (f_X9_fits_24 v0 M2) else (if v2 ≤ (100 : Int32) then (if x_tag M2 v0 = 9 + 10 then (if x_at M2 (x_r M2 v0 12) 1 v1 = true then (if (x_i M2 (x_r M2 v0 12) v1.toNatClampNeg) = (x_i M2 v0 1) then (if v2 = 0 then (some ((0 : Int32), M2)) else (some ((-1 : Int32), M2))) else (x_bd (f_X9_turnsOf v0 v1 M2) (fun r21 M20 => lp_X9_fits_63 x_fuel v0 v1 v2 r21 (0 : Int32) M20))) else none) else none) else (f_X9_fits_24 v0 M2))))) else none
set_option maxRecDepth 20000 in
set_option maxHeartbeats 4000000 in
theorem t_X9_fits (l : Launch) {v0 : Nat} {v1 : Int32} {v2 : Int32} {M : XM} {q : Int32 × XM} (H : f_X9_fits v0 v1 v2 M = some q) : AW l m_X9_fits 3 0 0 (x_Ri q) 0 0 0 [some (.ref v0), some (.int v1), some (.int v2), none, none, none, none, none, none, none] [] M := by
  unfold f_X9_fits at H
  refine x_aload_n 0 0 dX9_fits_0 rfl rfl ?_
  refine x_iload_n 1 1 dX9_fits_1 rfl rfl ?_
  obtain ⟨h1, H⟩ := x_ckp H
  obtain ⟨r3, M2, e4, H⟩ := x_bd_of H
  refine x_callV 2 104 9 [(.int v1)] [] dX9_fits_2 (ct_X9_isCounter l e4) lk_1183 lk_1185 lk_38 (by decide) h1 lk_94 lk_1186 ⟨cn_X9_isCounter, (by decide), by decide⟩ rfl (Nat.le_of_ble_eq_true rfl) (Nat.le_of_ble_eq_true rfl) (Nat.le_of_ble_eq_true rfl) (x_ri ?_)
  refine x_if_ne 5 14 dX9_fits_5 (by decide) (fun c5 => ?_) (fun c5 => ?_)
  · replace H := x_ifn c5 H
    refine x_iload_n 14 2 dX9_fits_14 rfl rfl ?_
    refine x_if_lt 15 24 dX9_fits_15 (by decide) (fun c10 => ?_) (fun c10 => ?_)
    · replace H := x_ifp c10 H
      exact x_wk (le_s (le_n (le_n (le_s (le_s (le_s (le_s (le_s (le_s (le_s le_0)))))))))) (t_X9_fits_24 l H)
    · replace H := x_ifn c10 H
      refine x_iload_n 18 2 dX9_fits_18 rfl rfl ?_
      refine x_bipush 19 (100 : Int32) dX9_fits_19 (by decide) ?_
      refine x_icmp_le 21 31 dX9_fits_21 (by decide) (fun c15 => ?_) (fun c15 => ?_)
      · replace H := x_ifp c15 H
        refine x_aload_n 31 0 dX9_fits_31 rfl rfl ?_
        obtain ⟨h16, H⟩ := x_ckp H
        refine x_getf 32 38 9 12 (.ref (x_r M2 v0 12)) dX9_fits_32 lk_1040 (by decide) (by decide) rfl (fun _ => rfl) h16 ?_
        refine x_iload_n 35 1 dX9_fits_35 rfl rfl ?_
        obtain ⟨h17, H⟩ := x_ckp H
        refine x_iald 36 dX9_fits_36 h17 ?_
        refine x_aload_n 37 0 dX9_fits_37 rfl rfl ?_
        refine x_getf 38 7 9 1 (.int (x_i M2 v0 1)) dX9_fits_38 lk_1029 (by decide) (by decide) rfl (fun _ => rfl) h16 ?_
        refine x_icmp_ne 41 54 dX9_fits_41 (by decide) (fun c18 => ?_) (fun c18 => ?_)
        · replace H := x_ifn c18 H
          refine x_aload_n 54 0 dX9_fits_54 rfl rfl ?_
          refine x_iload_n 55 1 dX9_fits_55 rfl rfl ?_
          obtain ⟨r21, M20, e22, H⟩ := x_bd_of H
          refine x_callV 56 221 9 [(.int v1)] [] dX9_fits_56 (ct_X9_turnsOf l e22) lk_1332 lk_1334 lk_63 (by decide) h16 lk_94 lk_1335 ⟨cn_X9_turnsOf, (by decide), by decide⟩ rfl (Nat.le_of_ble_eq_true rfl) (Nat.le_of_ble_eq_true rfl) (Nat.le_of_ble_eq_true rfl) (x_ri ?_)
          refine x_istore_n 59 3 [some (.ref v0), some (.int v1), some (.int v2), some (.int r21), none, none, none, none, none, none] dX9_fits_59 rfl rfl (Nat.le_of_ble_eq_true rfl) rfl ?_
          refine x_iconst 60 (0 : Int32) dX9_fits_60 (by decide) ?_
          refine x_istore 61 4 [some (.ref v0), some (.int v1), some (.int v2), some (.int r21), some (.int (0 : Int32)), none, none, none, none, none] dX9_fits_61 rfl (Nat.le_of_ble_eq_true rfl) rfl ?_
          exact t_X9_fits_63 l _ _ _ _ _ _ _ H
        · replace H := x_ifp c18 H
          refine x_iload_n 44 2 dX9_fits_44 rfl rfl ?_
          refine x_if_ne 45 52 dX9_fits_45 (by decide) (fun c19 => ?_) (fun c19 => ?_)
          · replace H := x_ifn c19 H
            refine x_iconst 52 (-1 : Int32) dX9_fits_52 (by decide) ?_
            cases H
            exact x_iret 53 dX9_fits_53 .int rfl rfl (Nat.le_of_ble_eq_true rfl) (Nat.le_of_ble_eq_true rfl) ⟨rfl, rfl⟩
          · replace H := x_ifp c19 H
            refine x_iconst 48 (0 : Int32) dX9_fits_48 (by decide) ?_
            refine x_goto 49 53 dX9_fits_49 (by decide) ?_
            cases H
            exact x_iret 53 dX9_fits_53 .int rfl rfl (Nat.le_of_ble_eq_true rfl) (Nat.le_of_ble_eq_true rfl) ⟨rfl, rfl⟩
      · replace H := x_ifn c15 H
        exact x_wk (le_s (le_n (le_n (le_s (le_s (le_s (le_s (le_s (le_s (le_s le_0)))))))))) (t_X9_fits_24 l H)
  · replace H := x_ifp c5 H
    refine x_aload_n 8 0 dX9_fits_8 rfl rfl ?_
    refine x_iconst 9 (-1 : Int32) dX9_fits_9 (by decide) ?_
    obtain ⟨h6, H⟩ := x_ckp H
    obtain ⟨r8, M7, e9, H⟩ := x_bd_of H
    refine x_callV 10 212 9 [(.int (-1 : Int32))] [] dX9_fits_10 (ct_X9_noTen l e9) lk_1312 lk_1314 lk_59 (by decide) h6 lk_94 lk_1315 ⟨cn_X9_noTen, (by decide), by decide⟩ rfl (Nat.le_of_ble_eq_true rfl) (Nat.le_of_ble_eq_true rfl) (Nat.le_of_ble_eq_true rfl) (x_ri ?_)
    cases H
    exact x_iret 13 dX9_fits_13 .int rfl rfl (Nat.le_of_ble_eq_true rfl) (Nat.le_of_ble_eq_true rfl) ⟨rfl, rfl⟩

theorem ct_X9_fits (l : Launch) {v0 : Nat} {v1 : Int32} {v2 : Int32} {M : XM} {q : Int32 × XM} (H : f_X9_fits v0 v1 v2 M = some q) : Ct l m_X9_fits 3 0 0 [(.ref v0), (.int v1), (.int v2)] M (x_Ri q) := x_met l m_X9_fits 3 0 0 [(.ref v0), (.int v1), (.int v2)] M (x_Ri q) _ rfl rfl (Nat.le_of_ble_eq_true rfl) (t_X9_fits l H)
theorem lk_1065 : Cond.fieldLink RX9 245 RX9 "broke" "I" ∈ x_TB := x_tb (k := 1065) (by decide +kernel) rfl
abbrev m_X9_wrongIn : XU := (yX9_wrongIn, cX9_wrongIn, 8, (some .int))
theorem cn_X9_wrongIn : m_X9_wrongIn.1.cls ≠ "java/lang/invoke/MethodHandle" ∧ m_X9_wrongIn.1.cls ≠ "java/lang/invoke/VarHandle" ∧ (parseMethodDescriptor m_X9_wrongIn.1.desc).map (fun q => q.parameters.length) = some 3 := by decide +kernel
def f_X9_wrongIn_90 (κ24 : Nat → Int32 → Int32 → Int32 → Int32 → Int32 → Int32 → XM → Option (Int32 × XM)) (v0 : Nat) (v1 : Int32) (v2 : Int32) (v3 : Int32) (v5 : Int32) (v6 : Int32) (v7 : Int32) (M : XM) : Option (Int32 × XM) :=
  κ24 v0 v1 v2 v3 v7 v5 (v6 + (1 : Int32)) M
set_option maxRecDepth 20000 in
set_option maxHeartbeats 4000000 in
theorem t_X9_wrongIn_90 (l : Launch) {κ24 : Nat → Int32 → Int32 → Int32 → Int32 → Int32 → Int32 → XM → Option (Int32 × XM)} {v0 : Nat} {v1 : Int32} {v2 : Int32} {v3 : Int32} {v5 : Int32} {v6 : Int32} {v7 : Int32} {M : XM} {q : Int32 × XM} (hκ24 : ∀ (v0 : Nat) (v1 : Int32) (v2 : Int32) (v3 : Int32) (v4 : Int32) (v5 : Int32) (v6 : Int32) (M : XM), κ24 v0 v1 v2 v3 v4 v5 v6 M = some q → AW l m_X9_wrongIn 2 0 0 (x_Ri q) 0 0 24 [some (.ref v0), some (.int v1), some (.int v2), some (.int v3), some (.int v4), some (.int v5), some (.int v6), none] [] M) (H : f_X9_wrongIn_90 κ24 v0 v1 v2 v3 v5 v6 v7 M = some q) : AW l m_X9_wrongIn 2 0 0 (x_Ri q) 0 0 90 [some (.ref v0), some (.int v1), some (.int v2), some (.int v3), none, some (.int v5), some (.int v6), some (.int v7)] [] M := by
  unfold f_X9_wrongIn_90 at H
  refine x_iload 90 7 dX9_wrongIn_90 rfl ?_
  refine x_istore 92 4 [some (.ref v0), some (.int v1), some (.int v2), some (.int v3), some (.int v7), some (.int v5), some (.int v6), some (.int v7)] dX9_wrongIn_92 rfl (Nat.le_of_ble_eq_true rfl) rfl ?_
  refine x_iinc 94 6 (v6 + (1 : Int32)) [some (.ref v0), some (.int v1), some (.int v2), some (.int v3), some (.int v7), some (.int v5), some (.int (v6 + (1 : Int32))), some (.int v7)] dX9_wrongIn_94 rfl (congrArg (fun z : Int32 => v6 + z) (show Int32.ofInt (1) = (1 : Int32) by decide)) rfl (Nat.le_of_ble_eq_true rfl) rfl ?_
  refine x_goto 97 24 dX9_wrongIn_97 (by decide) ?_
  exact x_wk (le_s (le_s (le_s (le_s (le_s (le_s (le_s (le_n le_0)))))))) (hκ24 _ _ _ _ _ _ _ _ H)

def bd_X9_wrongIn_24 (κ24 : Nat → Int32 → Int32 → Int32 → Int32 → Int32 → Int32 → XM → Option (Int32 × XM)) (v0 : Nat) (v1 : Int32) (v2 : Int32) (v3 : Int32) (v4 : Int32) (v5 : Int32) (v6 : Int32) (M : XM) : Option (Int32 × XM) :=
  if v3 ≤ v6 then (some ((-1 : Int32), M)) else (if x_tag M v0 = 9 + 10 then (x_bd (f_X9_intAt v0 v2 v6 M) (fun r14 M13 => if x_tag M13 v0 = 9 + 10 then (if v4 = (x_i M13 v0 1) then (some (v6, M13)) else (if r14 = (v4 + (1 : Int32)) then (f_X9_wrongIn_90 κ24 v0 v1 v2 v3 v5 v6 r14 M13) else (x_bd (f_X9_left v0 v1 v4 (v5 + (1 : Int32)) M13) (fun r20 M19 => if r14 = r20 then (if x_tag M19 v0 = 9 + 10 then (x_lt (x_wi M19 v0 37 ((x_i M19 v0 37) + (1 : Int32))) (fun M24 => f_X9_wrongIn_90 κ24 v0 v1 v2 v3 (v5 + (1 : Int32)) v6 r14 M24)) else none) else (some (v6, M19)))))) else none)) else none)
set_option maxRecDepth 20000 in
set_option maxHeartbeats 4000000 in
theorem tb_X9_wrongIn_24 (l : Launch) {κ24 : Nat → Int32 → Int32 → Int32 → Int32 → Int32 → Int32 → XM → Option (Int32 × XM)} {v0 : Nat} {v1 : Int32} {v2 : Int32} {v3 : Int32} {v4 : Int32} {v5 : Int32} {v6 : Int32} {M : XM} {q : Int32 × XM} (hκ24 : ∀ (v0 : Nat) (v1 : Int32) (v2 : Int32) (v3 : Int32) (v4 : Int32) (v5 : Int32) (v6 : Int32) (M : XM), κ24 v0 v1 v2 v3 v4 v5 v6 M = some q → AW l m_X9_wrongIn 2 0 0 (x_Ri q) 0 0 24 [some (.ref v0), some (.int v1), some (.int v2), some (.int v3), some (.int v4), some (.int v5), some (.int v6), none] [] M) (H : bd_X9_wrongIn_24 κ24 v0 v1 v2 v3 v4 v5 v6 M = some q) : AW l m_X9_wrongIn 2 0 0 (x_Ri q) 0 0 24 [some (.ref v0), some (.int v1), some (.int v2), some (.int v3), some (.int v4), some (.int v5), some (.int v6), none] [] M := by
  unfold bd_X9_wrongIn_24 at H
  refine x_iload 24 6 dX9_wrongIn_24 rfl ?_
  refine x_iload_n 26 3 dX9_wrongIn_26 rfl rfl ?_
  refine x_icmp_ge 27 100 dX9_wrongIn_27 (by decide) (fun c11 => ?_) (fun c11 => ?_)
  · replace H := x_ifp c11 H
    refine x_iconst 100 (-1 : Int32) dX9_wrongIn_100 (by decide) ?_
    cases H
    exact x_iret 101 dX9_wrongIn_101 .int rfl rfl (Nat.le_of_ble_eq_true rfl) (Nat.le_of_ble_eq_true rfl) ⟨rfl, rfl⟩
  · replace H := x_ifn c11 H
    refine x_aload_n 30 0 dX9_wrongIn_30 rfl rfl ?_
    refine x_iload_n 31 2 dX9_wrongIn_31 rfl rfl ?_
    refine x_iload 32 6 dX9_wrongIn_32 rfl ?_
    obtain ⟨h12, H⟩ := x_ckp H
    obtain ⟨r14, M13, e15, H⟩ := x_bd_of H
    refine x_callV 34 110 9 [(.int v2), (.int v6)] [] dX9_wrongIn_34 (ct_X9_intAt l e15) lk_1296 lk_1298 lk_56 (by decide) h12 lk_94 lk_1299 ⟨cn_X9_intAt, (by decide), by decide⟩ rfl (Nat.le_of_ble_eq_true rfl) (Nat.le_of_ble_eq_true rfl) (Nat.le_of_ble_eq_true rfl) (x_ri ?_)
    refine x_istore 37 7 [some (.ref v0), some (.int v1), some (.int v2), some (.int v3), some (.int v4), some (.int v5), some (.int v6), some (.int r14)] dX9_wrongIn_37 rfl (Nat.le_of_ble_eq_true rfl) rfl ?_
    refine x_iload 39 4 dX9_wrongIn_39 rfl ?_
    refine x_aload_n 41 0 dX9_wrongIn_41 rfl rfl ?_
    obtain ⟨h16, H⟩ := x_ckp H
    refine x_getf 42 7 9 1 (.int (x_i M13 v0 1)) dX9_wrongIn_42 lk_1029 (by decide) (by decide) rfl (fun _ => rfl) h16 ?_
    refine x_icmp_ne 45 51 dX9_wrongIn_45 (by decide) (fun c17 => ?_) (fun c17 => ?_)
    · replace H := x_ifn c17 H
      refine x_iload 51 7 dX9_wrongIn_51 rfl ?_
      refine x_iload 53 4 dX9_wrongIn_53 rfl ?_
      refine x_iconst 55 (1 : Int32) dX9_wrongIn_55 (by decide) ?_
      refine x_iadd 56 dX9_wrongIn_56 ?_
      refine x_icmp_eq 57 90 dX9_wrongIn_57 (by decide) (fun c18 => ?_) (fun c18 => ?_)
      · replace H := x_ifp c18 H
        exact x_wk (le_s (le_s (le_s (le_s (le_n (le_s (le_s (le_s le_0)))))))) (t_X9_wrongIn_90 l hκ24 H)
      · replace H := x_ifn c18 H
        refine x_iinc 60 5 (v5 + (1 : Int32)) [some (.ref v0), some (.int v1), some (.int v2), some (.int v3), some (.int v4), some (.int (v5 + (1 : Int32))), some (.int v6), some (.int r14)] dX9_wrongIn_60 rfl (congrArg (fun z : Int32 => v5 + z) (show Int32.ofInt (1) = (1 : Int32) by decide)) rfl (Nat.le_of_ble_eq_true rfl) rfl ?_
        refine x_iload 63 7 dX9_wrongIn_63 rfl ?_
        refine x_aload_n 65 0 dX9_wrongIn_65 rfl rfl ?_
        refine x_iload_n 66 1 dX9_wrongIn_66 rfl rfl ?_
        refine x_iload 67 4 dX9_wrongIn_67 rfl ?_
        refine x_iload 69 5 dX9_wrongIn_69 rfl ?_
        obtain ⟨r20, M19, e21, H⟩ := x_bd_of H
        refine x_callV 71 183 9 [(.int v1), (.int v4), (.int (v5 + (1 : Int32)))] [(.int r14)] dX9_wrongIn_71 (ct_X9_left l e21) lk_1271 lk_1273 lk_53 (by decide) h16 lk_94 lk_1274 ⟨cn_X9_left, (by decide), by decide⟩ rfl (Nat.le_of_ble_eq_true rfl) (Nat.le_of_ble_eq_true rfl) (Nat.le_of_ble_eq_true rfl) (x_ri ?_)
        refine x_icmp_eq 74 80 dX9_wrongIn_74 (by decide) (fun c22 => ?_) (fun c22 => ?_)
        · replace H := x_ifp c22 H
          refine x_aload_n 80 0 dX9_wrongIn_80 rfl rfl ?_
          refine x_dup 81 dX9_wrongIn_81 rfl ?_
          obtain ⟨h23, H⟩ := x_ckp H
          refine x_getf 82 245 9 37 (.int (x_i M19 v0 37)) dX9_wrongIn_82 lk_1065 (by decide) (by decide) rfl (fun _ => rfl) h23 ?_
          refine x_iconst 85 (1 : Int32) dX9_wrongIn_85 (by decide) ?_
          refine x_iadd 86 dX9_wrongIn_86 ?_
          obtain ⟨M24, w25, H⟩ := x_lt_of H
          have h26 : x_tag M24 v0 = 9 + 10 := by rw [w25]; exact h23
          refine x_putI' 87 245 9 37 dX9_wrongIn_87 lk_1065 (by decide) (by decide) rfl (Or.inl rfl) (Or.inl rfl) h23 w25 ?_
          exact x_wk (le_s (le_s (le_s (le_s (le_n (le_s (le_s (le_s le_0)))))))) (t_X9_wrongIn_90 l hκ24 H)
        · replace H := x_ifn c22 H
          refine x_iload 77 6 dX9_wrongIn_77 rfl ?_
          cases H
          exact x_iret 79 dX9_wrongIn_79 .int rfl rfl (Nat.le_of_ble_eq_true rfl) (Nat.le_of_ble_eq_true rfl) ⟨rfl, rfl⟩
    · replace H := x_ifp c17 H
      refine x_iload 48 6 dX9_wrongIn_48 rfl ?_
      cases H
      exact x_iret 50 dX9_wrongIn_50 .int rfl rfl (Nat.le_of_ble_eq_true rfl) (Nat.le_of_ble_eq_true rfl) ⟨rfl, rfl⟩

def lp_X9_wrongIn_24 (n : Nat) : Nat → Int32 → Int32 → Int32 → Int32 → Int32 → Int32 → XM → Option (Int32 × XM) := x_rec (fun _ _ _ _ _ _ _ _ => none) (bd_X9_wrongIn_24) n
theorem t_X9_wrongIn_24 (l : Launch) {q : Int32 × XM} : ∀ (n : Nat) (v0 : Nat) (v1 : Int32) (v2 : Int32) (v3 : Int32) (v4 : Int32) (v5 : Int32) (v6 : Int32) (M : XM), lp_X9_wrongIn_24 n v0 v1 v2 v3 v4 v5 v6 M = some q → AW l m_X9_wrongIn 2 0 0 (x_Ri q) 0 0 24 [some (.ref v0), some (.int v1), some (.int v2), some (.int v3), some (.int v4), some (.int v5), some (.int v6), none] [] M := by
  intro n
  induction n with
  | zero => intro v0 v1 v2 v3 v4 v5 v6 M H; cases H
  | succ n ih => intro v0 v1 v2 v3 v4 v5 v6 M H; exact tb_X9_wrongIn_24 l ih H
def f_X9_wrongIn (v0 : Nat) (v1 : Int32) (v2 : Int32) (v3 : Int32) (M : XM) : Option (Int32 × XM) :=
  if x_tag M v0 = 9 + 10 then (if x_at M (x_r M v0 12) 1 v1 = true then (if x_at M (x_r M v0 14) 1 v1 = true then (x_lt (x_wi M v0 37 (0 : Int32)) (fun M4 => lp_X9_wrongIn_24 x_fuel v0 v1 v2 v3 (x_i M (x_r M v0 12) v1.toNatClampNeg) (x_i M (x_r M v0 14) v1.toNatClampNeg) (0 : Int32) M4)) else none) else none) else none
set_option maxRecDepth 20000 in
set_option maxHeartbeats 4000000 in
theorem t_X9_wrongIn (l : Launch) {v0 : Nat} {v1 : Int32} {v2 : Int32} {v3 : Int32} {M : XM} {q : Int32 × XM} (H : f_X9_wrongIn v0 v1 v2 v3 M = some q) : AW l m_X9_wrongIn 2 0 0 (x_Ri q) 0 0 0 [some (.ref v0), some (.int v1), some (.int v2), some (.int v3), none, none, none, none] [] M := by
  unfold f_X9_wrongIn at H
  refine x_aload_n 0 0 dX9_wrongIn_0 rfl rfl ?_
  obtain ⟨h1, H⟩ := x_ckp H
  refine x_getf 1 38 9 12 (.ref (x_r M v0 12)) dX9_wrongIn_1 lk_1040 (by decide) (by decide) rfl (fun _ => rfl) h1 ?_
  refine x_iload_n 4 1 dX9_wrongIn_4 rfl rfl ?_
  obtain ⟨h2, H⟩ := x_ckp H
  refine x_iald 5 dX9_wrongIn_5 h2 ?_
  refine x_istore 6 4 [some (.ref v0), some (.int v1), some (.int v2), some (.int v3), some (.int (x_i M (x_r M v0 12) v1.toNatClampNeg)), none, none, none] dX9_wrongIn_6 rfl (Nat.le_of_ble_eq_true rfl) rfl ?_
  refine x_aload_n 8 0 dX9_wrongIn_8 rfl rfl ?_
  refine x_getf 9 44 9 14 (.ref (x_r M v0 14)) dX9_wrongIn_9 lk_1042 (by decide) (by decide) rfl (fun _ => rfl) h1 ?_
  refine x_iload_n 12 1 dX9_wrongIn_12 rfl rfl ?_
  obtain ⟨h3, H⟩ := x_ckp H
  refine x_iald 13 dX9_wrongIn_13 h3 ?_
  refine x_istore 14 5 [some (.ref v0), some (.int v1), some (.int v2), some (.int v3), some (.int (x_i M (x_r M v0 12) v1.toNatClampNeg)), some (.int (x_i M (x_r M v0 14) v1.toNatClampNeg)), none, none] dX9_wrongIn_14 rfl (Nat.le_of_ble_eq_true rfl) rfl ?_
  refine x_aload_n 16 0 dX9_wrongIn_16 rfl rfl ?_
  refine x_iconst 17 (0 : Int32) dX9_wrongIn_17 (by decide) ?_
  obtain ⟨M4, w5, H⟩ := x_lt_of H
  have h6 : x_tag M4 v0 = 9 + 10 := by rw [w5]; exact h1
  have h7 : x_at M4 (x_r M v0 12) 1 v1 = true := by rw [w5]; exact h2
  have h8 : x_tag M4 (x_r M v0 12) = 1 := by rw [w5]; exact (x_at_1 h2)
  have h9 : x_at M4 (x_r M v0 14) 1 v1 = true := by rw [w5]; exact h3
  have h10 : x_tag M4 (x_r M v0 14) = 1 := by rw [w5]; exact (x_at_1 h3)
  refine x_putI' 18 245 9 37 dX9_wrongIn_18 lk_1065 (by decide) (by decide) rfl (Or.inl rfl) (Or.inl rfl) h1 w5 ?_
  refine x_iconst 21 (0 : Int32) dX9_wrongIn_21 (by decide) ?_
  refine x_istore 22 6 [some (.ref v0), some (.int v1), some (.int v2), some (.int v3), some (.int (x_i M (x_r M v0 12) v1.toNatClampNeg)), some (.int (x_i M (x_r M v0 14) v1.toNatClampNeg)), some (.int (0 : Int32)), none] dX9_wrongIn_22 rfl (Nat.le_of_ble_eq_true rfl) rfl ?_
  exact t_X9_wrongIn_24 l _ _ _ _ _ _ _ _ _ H

theorem ct_X9_wrongIn (l : Launch) {v0 : Nat} {v1 : Int32} {v2 : Int32} {v3 : Int32} {M : XM} {q : Int32 × XM} (H : f_X9_wrongIn v0 v1 v2 v3 M = some q) : Ct l m_X9_wrongIn 2 0 0 [(.ref v0), (.int v1), (.int v2), (.int v3)] M (x_Ri q) := x_met l m_X9_wrongIn 2 0 0 [(.ref v0), (.int v1), (.int v2), (.int v3)] M (x_Ri q) _ rfl rfl (Nat.le_of_ble_eq_true rfl) (t_X9_wrongIn l H)
abbrev m_X9_barsOf : XU := (yX9_barsOf, cX9_barsOf, 5, (some .int))
theorem cn_X9_barsOf : m_X9_barsOf.1.cls ≠ "java/lang/invoke/MethodHandle" ∧ m_X9_barsOf.1.cls ≠ "java/lang/invoke/VarHandle" ∧ (parseMethodDescriptor m_X9_barsOf.1.desc).map (fun q => q.parameters.length) = some 3 := by decide +kernel
def f_X9_barsOf_26 (v3 : Int32) (s0 : Int32) (M : XM) : Option (Int32 × XM) :=
  if s0 = 0 then (if v3 ≤ (40 : Int32) then (some (s0, M)) else (some ((-6 : Int32), M))) else (some (s0, M))
set_option maxRecDepth 20000 in
set_option maxHeartbeats 4000000 in
theorem t_X9_barsOf_26 (l : Launch) {v3 : Int32} {s0 : Int32} {M : XM} {q : Int32 × XM} (H : f_X9_barsOf_26 v3 s0 M = some q) : AW l m_X9_barsOf 4 0 0 (x_Ri q) 0 0 26 [none, none, none, some (.int v3), none] [(.int s0)] M := by
  unfold f_X9_barsOf_26 at H
  refine x_istore 26 4 [none, none, none, some (.int v3), some (.int s0)] dX9_barsOf_26 rfl (Nat.le_of_ble_eq_true rfl) rfl ?_
  refine x_iload 28 4 dX9_barsOf_28 rfl ?_
  refine x_if_ne 30 44 dX9_barsOf_30 (by decide) (fun c10 => ?_) (fun c10 => ?_)
  · replace H := x_ifn c10 H
    refine x_iload 44 4 dX9_barsOf_44 rfl ?_
    cases H
    exact x_iret 46 dX9_barsOf_46 .int rfl rfl (Nat.le_of_ble_eq_true rfl) (Nat.le_of_ble_eq_true rfl) ⟨rfl, rfl⟩
  · replace H := x_ifp c10 H
    refine x_iload_n 33 3 dX9_barsOf_33 rfl rfl ?_
    refine x_bipush 34 (40 : Int32) dX9_barsOf_34 (by decide) ?_
    refine x_icmp_le 36 44 dX9_barsOf_36 (by decide) (fun c11 => ?_) (fun c11 => ?_)
    · replace H := x_ifp c11 H
      refine x_iload 44 4 dX9_barsOf_44 rfl ?_
      cases H
      exact x_iret 46 dX9_barsOf_46 .int rfl rfl (Nat.le_of_ble_eq_true rfl) (Nat.le_of_ble_eq_true rfl) ⟨rfl, rfl⟩
    · replace H := x_ifn c11 H
      refine x_bipush 39 (-6 : Int32) dX9_barsOf_39 (by decide) ?_
      refine x_goto 41 46 dX9_barsOf_41 (by decide) ?_
      cases H
      exact x_iret 46 dX9_barsOf_46 .int rfl rfl (Nat.le_of_ble_eq_true rfl) (Nat.le_of_ble_eq_true rfl) ⟨rfl, rfl⟩

def f_X9_barsOf_20 (v0 : Nat) (v2 : Int32) (v3 : Int32) (M : XM) : Option (Int32 × XM) :=
  if x_tag M v0 = 9 + 10 then (x_bd (f_X9_bars v0 v2 v3 M) (fun r8 M7 => f_X9_barsOf_26 v3 r8 M7)) else none
set_option maxRecDepth 20000 in
set_option maxHeartbeats 4000000 in
theorem t_X9_barsOf_20 (l : Launch) {v0 : Nat} {v2 : Int32} {v3 : Int32} {M : XM} {q : Int32 × XM} (H : f_X9_barsOf_20 v0 v2 v3 M = some q) : AW l m_X9_barsOf 4 0 0 (x_Ri q) 0 0 20 [some (.ref v0), none, some (.int v2), some (.int v3), none] [] M := by
  unfold f_X9_barsOf_20 at H
  refine x_aload_n 20 0 dX9_barsOf_20 rfl rfl ?_
  refine x_iload_n 21 2 dX9_barsOf_21 rfl rfl ?_
  refine x_iload_n 22 3 dX9_barsOf_22 rfl rfl ?_
  obtain ⟨h6, H⟩ := x_ckp H
  obtain ⟨r8, M7, e9, H⟩ := x_bd_of H
  refine x_callV 23 206 9 [(.int v2), (.int v3)] [] dX9_barsOf_23 (ct_X9_bars l e9) lk_1288 lk_1290 lk_54 (by decide) h6 lk_94 lk_1291 ⟨cn_X9_bars, (by decide), by decide⟩ rfl (Nat.le_of_ble_eq_true rfl) (Nat.le_of_ble_eq_true rfl) (Nat.le_of_ble_eq_true rfl) (x_ri ?_)
  exact x_wk (le_n (le_s (le_n (le_s (le_s le_0))))) (t_X9_barsOf_26 l H)

def f_X9_barsOf (v0 : Nat) (v1 : Int32) (v2 : Int32) (v3 : Int32) (M : XM) : Option (Int32 × XM) :=
  if x_tag M v0 = 9 + 10 then (x_bd (f_X9_isShelf v0 v2 M) (fun r3 M2 => if r3 = 0 then (f_X9_barsOf_20 v0 v2 v3 M2) else (if x_tag M2 v0 = 9 + 10 then (x_bd (f_X9_isCounter v0 v1 M2) (fun r14 M13 => if r14 = 0 then (f_X9_barsOf_26 v3 (-1 : Int32) M13) else (f_X9_barsOf_20 v0 v2 v3 M13))) else none))) else none
set_option maxRecDepth 20000 in
set_option maxHeartbeats 4000000 in
theorem t_X9_barsOf (l : Launch) {v0 : Nat} {v1 : Int32} {v2 : Int32} {v3 : Int32} {M : XM} {q : Int32 × XM} (H : f_X9_barsOf v0 v1 v2 v3 M = some q) : AW l m_X9_barsOf 4 0 0 (x_Ri q) 0 0 0 [some (.ref v0), some (.int v1), some (.int v2), some (.int v3), none] [] M := by
  unfold f_X9_barsOf at H
  refine x_aload_n 0 0 dX9_barsOf_0 rfl rfl ?_
  refine x_iload_n 1 2 dX9_barsOf_1 rfl rfl ?_
  obtain ⟨h1, H⟩ := x_ckp H
  obtain ⟨r3, M2, e4, H⟩ := x_bd_of H
  refine x_callV 2 96 9 [(.int v2)] [] dX9_barsOf_2 (ct_X9_isShelf l e4) lk_1159 lk_1161 lk_36 (by decide) h1 lk_94 lk_1162 ⟨cn_X9_isShelf, (by decide), by decide⟩ rfl (Nat.le_of_ble_eq_true rfl) (Nat.le_of_ble_eq_true rfl) (Nat.le_of_ble_eq_true rfl) (x_ri ?_)
  refine x_if_eq 5 20 dX9_barsOf_5 (by decide) (fun c5 => ?_) (fun c5 => ?_)
  · replace H := x_ifp c5 H
    exact x_wk (le_s (le_n (le_s (le_s (le_s le_0))))) (t_X9_barsOf_20 l H)
  · replace H := x_ifn c5 H
    refine x_aload_n 8 0 dX9_barsOf_8 rfl rfl ?_
    refine x_iload_n 9 1 dX9_barsOf_9 rfl rfl ?_
    obtain ⟨h12, H⟩ := x_ckp H
    obtain ⟨r14, M13, e15, H⟩ := x_bd_of H
    refine x_callV 10 104 9 [(.int v1)] [] dX9_barsOf_10 (ct_X9_isCounter l e15) lk_1183 lk_1185 lk_38 (by decide) h12 lk_94 lk_1186 ⟨cn_X9_isCounter, (by decide), by decide⟩ rfl (Nat.le_of_ble_eq_true rfl) (Nat.le_of_ble_eq_true rfl) (Nat.le_of_ble_eq_true rfl) (x_ri ?_)
    refine x_if_ne 13 20 dX9_barsOf_13 (by decide) (fun c16 => ?_) (fun c16 => ?_)
    · replace H := x_ifn c16 H
      exact x_wk (le_s (le_n (le_s (le_s (le_s le_0))))) (t_X9_barsOf_20 l H)
    · replace H := x_ifp c16 H
      refine x_iconst 16 (-1 : Int32) dX9_barsOf_16 (by decide) ?_
      refine x_goto 17 26 dX9_barsOf_17 (by decide) ?_
      exact x_wk (le_n (le_n (le_n (le_s (le_s le_0))))) (t_X9_barsOf_26 l H)

theorem ct_X9_barsOf (l : Launch) {v0 : Nat} {v1 : Int32} {v2 : Int32} {v3 : Int32} {M : XM} {q : Int32 × XM} (H : f_X9_barsOf v0 v1 v2 v3 M = some q) : Ct l m_X9_barsOf 4 0 0 [(.ref v0), (.int v1), (.int v2), (.int v3)] M (x_Ri q) := x_met l m_X9_barsOf 4 0 0 [(.ref v0), (.int v1), (.int v2), (.int v3)] M (x_Ri q) _ rfl rfl (Nat.le_of_ble_eq_true rfl) (t_X9_barsOf l H)
theorem lk_1389 : Cond.code yX9_barsOf cX9_barsOf 5 (some .int) ∈ x_TB := x_tb (k := 1389) (by decide +kernel) rfl
theorem lk_1386 : Cond.methodLink RX9 248 yX9_barsOf ∈ x_TB := x_tb (k := 1386) (by decide +kernel) rfl
theorem lk_69 : Cond.selects RX9 yX9_barsOf yX9_barsOf ∈ x_TB := x_tb (k := 69) (by decide +kernel) rfl
theorem lk_1388 : Cond.instanceMethod yX9_barsOf ∈ x_TB := x_tb (k := 1388) (by decide +kernel) rfl
theorem lk_1393 : Cond.code yX9_wrongIn cX9_wrongIn 8 (some .int) ∈ x_TB := x_tb (k := 1393) (by decide +kernel) rfl
theorem lk_1390 : Cond.methodLink RX9 251 yX9_wrongIn ∈ x_TB := x_tb (k := 1390) (by decide +kernel) rfl
theorem lk_70 : Cond.selects RX9 yX9_wrongIn yX9_wrongIn ∈ x_TB := x_tb (k := 70) (by decide +kernel) rfl
theorem lk_1392 : Cond.instanceMethod yX9_wrongIn ∈ x_TB := x_tb (k := 1392) (by decide +kernel) rfl
abbrev m_X9_judge : XU := (yX9_judge, cX9_judge, 5, (some .int))
theorem cn_X9_judge : m_X9_judge.1.cls ≠ "java/lang/invoke/MethodHandle" ∧ m_X9_judge.1.cls ≠ "java/lang/invoke/VarHandle" ∧ (parseMethodDescriptor m_X9_judge.1.desc).map (fun q => q.parameters.length) = some 3 := by decide +kernel
def f_X9_judge (v0 : Nat) (v1 : Int32) (v2 : Int32) (v3 : Int32) (M : XM) : Option (Int32 × XM) :=
  if x_tag M v0 = 9 + 10 then (x_bd (f_X9_barsOf v0 v1 v2 v3 M) (fun r3 M2 => if r3 = 0 then (if x_tag M2 v0 = 9 + 10 then (x_bd (f_X9_wrongIn v0 v1 v2 v3 M2) (fun r8 M7 => some (r8, M7))) else none) else (if x_tag M2 v0 = 9 + 10 then (x_bd (f_X9_noTen v0 r3 M2) (fun r12 M11 => some (r12, M11))) else none))) else none
set_option maxRecDepth 20000 in
set_option maxHeartbeats 4000000 in
theorem t_X9_judge (l : Launch) {v0 : Nat} {v1 : Int32} {v2 : Int32} {v3 : Int32} {M : XM} {q : Int32 × XM} (H : f_X9_judge v0 v1 v2 v3 M = some q) : AW l m_X9_judge 5 0 0 (x_Ri q) 0 0 0 [some (.ref v0), some (.int v1), some (.int v2), some (.int v3), none] [] M := by
  unfold f_X9_judge at H
  refine x_aload_n 0 0 dX9_judge_0 rfl rfl ?_
  refine x_iload_n 1 1 dX9_judge_1 rfl rfl ?_
  refine x_iload_n 2 2 dX9_judge_2 rfl rfl ?_
  refine x_iload_n 3 3 dX9_judge_3 rfl rfl ?_
  obtain ⟨h1, H⟩ := x_ckp H
  obtain ⟨r3, M2, e4, H⟩ := x_bd_of H
  refine x_callV 4 248 9 [(.int v1), (.int v2), (.int v3)] [] dX9_judge_4 (ct_X9_barsOf l e4) lk_1386 lk_1388 lk_69 (by decide) h1 lk_94 lk_1389 ⟨cn_X9_barsOf, (by decide), by decide⟩ rfl (Nat.le_of_ble_eq_true rfl) (Nat.le_of_ble_eq_true rfl) (Nat.le_of_ble_eq_true rfl) (x_ri ?_)
  refine x_istore 7 4 [some (.ref v0), some (.int v1), some (.int v2), some (.int v3), some (.int r3)] dX9_judge_7 rfl (Nat.le_of_ble_eq_true rfl) rfl ?_
  refine x_iload 9 4 dX9_judge_9 rfl ?_
  refine x_if_eq 11 23 dX9_judge_11 (by decide) (fun c5 => ?_) (fun c5 => ?_)
  · replace H := x_ifp c5 H
    refine x_aload_n 23 0 dX9_judge_23 rfl rfl ?_
    refine x_iload_n 24 1 dX9_judge_24 rfl rfl ?_
    refine x_iload_n 25 2 dX9_judge_25 rfl rfl ?_
    refine x_iload_n 26 3 dX9_judge_26 rfl rfl ?_
    obtain ⟨h6, H⟩ := x_ckp H
    obtain ⟨r8, M7, e9, H⟩ := x_bd_of H
    refine x_callV 27 251 9 [(.int v1), (.int v2), (.int v3)] [] dX9_judge_27 (ct_X9_wrongIn l e9) lk_1390 lk_1392 lk_70 (by decide) h6 lk_94 lk_1393 ⟨cn_X9_wrongIn, (by decide), by decide⟩ rfl (Nat.le_of_ble_eq_true rfl) (Nat.le_of_ble_eq_true rfl) (Nat.le_of_ble_eq_true rfl) (x_ri ?_)
    cases H
    exact x_iret 30 dX9_judge_30 .int rfl rfl (Nat.le_of_ble_eq_true rfl) (Nat.le_of_ble_eq_true rfl) ⟨rfl, rfl⟩
  · replace H := x_ifn c5 H
    refine x_aload_n 14 0 dX9_judge_14 rfl rfl ?_
    refine x_iload 15 4 dX9_judge_15 rfl ?_
    obtain ⟨h10, H⟩ := x_ckp H
    obtain ⟨r12, M11, e13, H⟩ := x_bd_of H
    refine x_callV 17 212 9 [(.int r3)] [] dX9_judge_17 (ct_X9_noTen l e13) lk_1312 lk_1314 lk_59 (by decide) h10 lk_94 lk_1315 ⟨cn_X9_noTen, (by decide), by decide⟩ rfl (Nat.le_of_ble_eq_true rfl) (Nat.le_of_ble_eq_true rfl) (Nat.le_of_ble_eq_true rfl) (x_ri ?_)
    refine x_goto 20 30 dX9_judge_20 (by decide) ?_
    cases H
    exact x_iret 30 dX9_judge_30 .int rfl rfl (Nat.le_of_ble_eq_true rfl) (Nat.le_of_ble_eq_true rfl) ⟨rfl, rfl⟩

theorem ct_X9_judge (l : Launch) {v0 : Nat} {v1 : Int32} {v2 : Int32} {v3 : Int32} {M : XM} {q : Int32 × XM} (H : f_X9_judge v0 v1 v2 v3 M = some q) : Ct l m_X9_judge 5 0 0 [(.ref v0), (.int v1), (.int v2), (.int v3)] M (x_Ri q) := x_met l m_X9_judge 5 0 0 [(.ref v0), (.int v1), (.int v2), (.int v3)] M (x_Ri q) _ rfl rfl (Nat.le_of_ble_eq_true rfl) (t_X9_judge l H)
abbrev m_X9_breaks : XU := (yX9_breaks, cX9_breaks, 5, (some .int))
theorem cn_X9_breaks : m_X9_breaks.1.cls ≠ "java/lang/invoke/MethodHandle" ∧ m_X9_breaks.1.cls ≠ "java/lang/invoke/VarHandle" ∧ (parseMethodDescriptor m_X9_breaks.1.desc).map (fun q => q.parameters.length) = some 3 := by decide +kernel
def f_X9_breaks_29 (v0 : Nat) (v4 : Int32) (M : XM) : Option (Int32 × XM) :=
  if v4 = 0 then (if x_tag M v0 = 9 + 10 then (some ((x_i M v0 37), M)) else none) else (if x_tag M v0 = 9 + 10 then (x_bd (f_X9_no v0 v4 M) (fun r15 M14 => some (r15, M14))) else none)
set_option maxRecDepth 20000 in
set_option maxHeartbeats 4000000 in
theorem t_X9_breaks_29 (l : Launch) {v0 : Nat} {v4 : Int32} {M : XM} {q : Int32 × XM} (H : f_X9_breaks_29 v0 v4 M = some q) : AW l m_X9_breaks 5 0 0 (x_Ri q) 0 0 29 [some (.ref v0), none, none, none, some (.int v4)] [] M := by
  unfold f_X9_breaks_29 at H
  refine x_iload 29 4 dX9_breaks_29 rfl ?_
  refine x_if_eq 31 43 dX9_breaks_31 (by decide) (fun c11 => ?_) (fun c11 => ?_)
  · replace H := x_ifp c11 H
    refine x_aload_n 43 0 dX9_breaks_43 rfl rfl ?_
    obtain ⟨h12, H⟩ := x_ckp H
    refine x_getf 44 245 9 37 (.int (x_i M v0 37)) dX9_breaks_44 lk_1065 (by decide) (by decide) rfl (fun _ => rfl) h12 ?_
    cases H
    exact x_iret 47 dX9_breaks_47 .int rfl rfl (Nat.le_of_ble_eq_true rfl) (Nat.le_of_ble_eq_true rfl) ⟨rfl, rfl⟩
  · replace H := x_ifn c11 H
    refine x_aload_n 34 0 dX9_breaks_34 rfl rfl ?_
    refine x_iload 35 4 dX9_breaks_35 rfl ?_
    obtain ⟨h13, H⟩ := x_ckp H
    obtain ⟨r15, M14, e16, H⟩ := x_bd_of H
    refine x_callV 37 100 9 [(.int v4)] [] dX9_breaks_37 (ct_X9_no l e16) lk_1163 lk_1165 lk_37 (by decide) h13 lk_94 lk_1166 ⟨cn_X9_no, (by decide), by decide⟩ rfl (Nat.le_of_ble_eq_true rfl) (Nat.le_of_ble_eq_true rfl) (Nat.le_of_ble_eq_true rfl) (x_ri ?_)
    refine x_goto 40 47 dX9_breaks_40 (by decide) ?_
    cases H
    exact x_iret 47 dX9_breaks_47 .int rfl rfl (Nat.le_of_ble_eq_true rfl) (Nat.le_of_ble_eq_true rfl) ⟨rfl, rfl⟩

def f_X9_breaks (v0 : Nat) (v1 : Int32) (v2 : Int32) (v3 : Int32) (M : XM) : Option (Int32 × XM) :=
  if x_tag M v0 = 9 + 10 then (x_bd (f_X9_barsOf v0 v1 v2 v3 M) (fun r3 M2 => if r3 = 0 then (if x_tag M2 v0 = 9 + 10 then (x_bd (f_X9_wrongIn v0 v1 v2 v3 M2) (fun r8 M7 => if r8 = (-1 : Int32) then (f_X9_breaks_29 v0 r3 M7) else (f_X9_breaks_29 v0 (-6 : Int32) M7))) else none) else (f_X9_breaks_29 v0 r3 M2))) else none
set_option maxRecDepth 20000 in
set_option maxHeartbeats 4000000 in
theorem t_X9_breaks (l : Launch) {v0 : Nat} {v1 : Int32} {v2 : Int32} {v3 : Int32} {M : XM} {q : Int32 × XM} (H : f_X9_breaks v0 v1 v2 v3 M = some q) : AW l m_X9_breaks 5 0 0 (x_Ri q) 0 0 0 [some (.ref v0), some (.int v1), some (.int v2), some (.int v3), none] [] M := by
  unfold f_X9_breaks at H
  refine x_aload_n 0 0 dX9_breaks_0 rfl rfl ?_
  refine x_iload_n 1 1 dX9_breaks_1 rfl rfl ?_
  refine x_iload_n 2 2 dX9_breaks_2 rfl rfl ?_
  refine x_iload_n 3 3 dX9_breaks_3 rfl rfl ?_
  obtain ⟨h1, H⟩ := x_ckp H
  obtain ⟨r3, M2, e4, H⟩ := x_bd_of H
  refine x_callV 4 248 9 [(.int v1), (.int v2), (.int v3)] [] dX9_breaks_4 (ct_X9_barsOf l e4) lk_1386 lk_1388 lk_69 (by decide) h1 lk_94 lk_1389 ⟨cn_X9_barsOf, (by decide), by decide⟩ rfl (Nat.le_of_ble_eq_true rfl) (Nat.le_of_ble_eq_true rfl) (Nat.le_of_ble_eq_true rfl) (x_ri ?_)
  refine x_istore 7 4 [some (.ref v0), some (.int v1), some (.int v2), some (.int v3), some (.int r3)] dX9_breaks_7 rfl (Nat.le_of_ble_eq_true rfl) rfl ?_
  refine x_iload 9 4 dX9_breaks_9 rfl ?_
  refine x_if_ne 11 29 dX9_breaks_11 (by decide) (fun c5 => ?_) (fun c5 => ?_)
  · replace H := x_ifn c5 H
    exact x_wk (le_s (le_n (le_n (le_n (le_s le_0))))) (t_X9_breaks_29 l H)
  · replace H := x_ifp c5 H
    refine x_aload_n 14 0 dX9_breaks_14 rfl rfl ?_
    refine x_iload_n 15 1 dX9_breaks_15 rfl rfl ?_
    refine x_iload_n 16 2 dX9_breaks_16 rfl rfl ?_
    refine x_iload_n 17 3 dX9_breaks_17 rfl rfl ?_
    obtain ⟨h6, H⟩ := x_ckp H
    obtain ⟨r8, M7, e9, H⟩ := x_bd_of H
    refine x_callV 18 251 9 [(.int v1), (.int v2), (.int v3)] [] dX9_breaks_18 (ct_X9_wrongIn l e9) lk_1390 lk_1392 lk_70 (by decide) h6 lk_94 lk_1393 ⟨cn_X9_wrongIn, (by decide), by decide⟩ rfl (Nat.le_of_ble_eq_true rfl) (Nat.le_of_ble_eq_true rfl) (Nat.le_of_ble_eq_true rfl) (x_ri ?_)
    refine x_iconst 21 (-1 : Int32) dX9_breaks_21 (by decide) ?_
    refine x_icmp_eq 22 29 dX9_breaks_22 (by decide) (fun c10 => ?_) (fun c10 => ?_)
    · replace H := x_ifp c10 H
      exact x_wk (le_s (le_n (le_n (le_n (le_s le_0))))) (t_X9_breaks_29 l H)
    · replace H := x_ifn c10 H
      refine x_bipush 25 (-6 : Int32) dX9_breaks_25 (by decide) ?_
      refine x_istore 27 4 [some (.ref v0), some (.int v1), some (.int v2), some (.int v3), some (.int (-6 : Int32))] dX9_breaks_27 rfl (Nat.le_of_ble_eq_true rfl) rfl ?_
      exact x_wk (le_s (le_n (le_n (le_n (le_s le_0))))) (t_X9_breaks_29 l H)

theorem ct_X9_breaks (l : Launch) {v0 : Nat} {v1 : Int32} {v2 : Int32} {v3 : Int32} {M : XM} {q : Int32 × XM} (H : f_X9_breaks v0 v1 v2 v3 M = some q) : Ct l m_X9_breaks 5 0 0 [(.ref v0), (.int v1), (.int v2), (.int v3)] M (x_Ri q) := x_met l m_X9_breaks 5 0 0 [(.ref v0), (.int v1), (.int v2), (.int v3)] M (x_Ri q) _ rfl rfl (Nat.le_of_ble_eq_true rfl) (t_X9_breaks l H)
abbrev m_X9_quickest : XU := (yX9_quickest, cX9_quickest, 8, (some .int))
theorem cn_X9_quickest : m_X9_quickest.1.cls ≠ "java/lang/invoke/MethodHandle" ∧ m_X9_quickest.1.cls ≠ "java/lang/invoke/VarHandle" ∧ (parseMethodDescriptor m_X9_quickest.1.desc).map (fun q => q.parameters.length) = some 2 := by decide +kernel
def f_X9_quickest_93 (κ50 : Nat → Int32 → Int32 → Int32 → Int32 → Int32 → XM → Option (Int32 × XM)) (v0 : Nat) (v1 : Int32) (v2 : Int32) (v4 : Int32) (v5 : Int32) (v6 : Int32) (M : XM) : Option (Int32 × XM) :=
  κ50 v0 v1 v2 v4 v5 (v6 + (1 : Int32)) M
set_option maxRecDepth 20000 in
set_option maxHeartbeats 4000000 in
theorem t_X9_quickest_93 (l : Launch) {κ50 : Nat → Int32 → Int32 → Int32 → Int32 → Int32 → XM → Option (Int32 × XM)} {v0 : Nat} {v1 : Int32} {v2 : Int32} {v4 : Int32} {v5 : Int32} {v6 : Int32} {M : XM} {q : Int32 × XM} (hκ50 : ∀ (v0 : Nat) (v1 : Int32) (v2 : Int32) (v4 : Int32) (v5 : Int32) (v6 : Int32) (M : XM), κ50 v0 v1 v2 v4 v5 v6 M = some q → AW l m_X9_quickest 4 0 0 (x_Ri q) 0 0 50 [some (.ref v0), some (.int v1), some (.int v2), none, some (.int v4), some (.int v5), some (.int v6), none] [] M) (H : f_X9_quickest_93 κ50 v0 v1 v2 v4 v5 v6 M = some q) : AW l m_X9_quickest 4 0 0 (x_Ri q) 0 0 93 [some (.ref v0), some (.int v1), some (.int v2), none, some (.int v4), some (.int v5), some (.int v6), none] [] M := by
  unfold f_X9_quickest_93 at H
  refine x_iinc 93 6 (v6 + (1 : Int32)) [some (.ref v0), some (.int v1), some (.int v2), none, some (.int v4), some (.int v5), some (.int (v6 + (1 : Int32))), none] dX9_quickest_93 rfl (congrArg (fun z : Int32 => v6 + z) (show Int32.ofInt (1) = (1 : Int32) by decide)) rfl (Nat.le_of_ble_eq_true rfl) rfl ?_
  refine x_goto 96 50 dX9_quickest_96 (by decide) ?_
  exact hκ50 _ _ _ _ _ _ _ H

def bd_X9_quickest_50 (κ50 : Nat → Int32 → Int32 → Int32 → Int32 → Int32 → XM → Option (Int32 × XM)) (v0 : Nat) (v1 : Int32) (v2 : Int32) (v4 : Int32) (v5 : Int32) (v6 : Int32) (M : XM) : Option (Int32 × XM) :=
  if x_tag M v0 = 9 + 10 then (if (x_i M v0 0) ≤ v6 then (some (v4, M)) else (x_bd (f_X9_throughBy v0 v6 v1 v2 M) (fun r11 M10 => if r11 = (-1 : Int32) then (f_X9_quickest_93 κ50 v0 v1 v2 v4 v5 v6 M10) else (if r11 < v5 then (f_X9_quickest_93 κ50 v0 v1 v2 v6 r11 v6 M10) else (f_X9_quickest_93 κ50 v0 v1 v2 v4 v5 v6 M10))))) else none
set_option maxRecDepth 20000 in
set_option maxHeartbeats 4000000 in
theorem tb_X9_quickest_50 (l : Launch) {κ50 : Nat → Int32 → Int32 → Int32 → Int32 → Int32 → XM → Option (Int32 × XM)} {v0 : Nat} {v1 : Int32} {v2 : Int32} {v4 : Int32} {v5 : Int32} {v6 : Int32} {M : XM} {q : Int32 × XM} (hκ50 : ∀ (v0 : Nat) (v1 : Int32) (v2 : Int32) (v4 : Int32) (v5 : Int32) (v6 : Int32) (M : XM), κ50 v0 v1 v2 v4 v5 v6 M = some q → AW l m_X9_quickest 4 0 0 (x_Ri q) 0 0 50 [some (.ref v0), some (.int v1), some (.int v2), none, some (.int v4), some (.int v5), some (.int v6), none] [] M) (H : bd_X9_quickest_50 κ50 v0 v1 v2 v4 v5 v6 M = some q) : AW l m_X9_quickest 4 0 0 (x_Ri q) 0 0 50 [some (.ref v0), some (.int v1), some (.int v2), none, some (.int v4), some (.int v5), some (.int v6), none] [] M := by
  unfold bd_X9_quickest_50 at H
  refine x_iload 50 6 dX9_quickest_50 rfl ?_
  refine x_aload_n 52 0 dX9_quickest_52 rfl rfl ?_
  obtain ⟨h8, H⟩ := x_ckp H
  refine x_getf 53 93 9 0 (.int (x_i M v0 0)) dX9_quickest_53 lk_1028 (by decide) (by decide) rfl (fun _ => rfl) h8 ?_
  refine x_icmp_ge 56 99 dX9_quickest_56 (by decide) (fun c9 => ?_) (fun c9 => ?_)
  · replace H := x_ifp c9 H
    refine x_iload 99 4 dX9_quickest_99 rfl ?_
    cases H
    exact x_iret 101 dX9_quickest_101 .int rfl rfl (Nat.le_of_ble_eq_true rfl) (Nat.le_of_ble_eq_true rfl) ⟨rfl, rfl⟩
  · replace H := x_ifn c9 H
    refine x_aload_n 59 0 dX9_quickest_59 rfl rfl ?_
    refine x_iload 60 6 dX9_quickest_60 rfl ?_
    refine x_iload_n 62 1 dX9_quickest_62 rfl rfl ?_
    refine x_iload_n 63 2 dX9_quickest_63 rfl rfl ?_
    obtain ⟨r11, M10, e12, H⟩ := x_bd_of H
    refine x_callV 64 215 9 [(.int v6), (.int v1), (.int v2)] [] dX9_quickest_64 (ct_X9_throughBy l e12) lk_1316 lk_1318 lk_60 (by decide) h8 lk_94 lk_1319 ⟨cn_X9_throughBy, (by decide), by decide⟩ rfl (Nat.le_of_ble_eq_true rfl) (Nat.le_of_ble_eq_true rfl) (Nat.le_of_ble_eq_true rfl) (x_ri ?_)
    refine x_istore 67 7 [some (.ref v0), some (.int v1), some (.int v2), none, some (.int v4), some (.int v5), some (.int v6), some (.int r11)] dX9_quickest_67 rfl (Nat.le_of_ble_eq_true rfl) rfl ?_
    refine x_iload 69 7 dX9_quickest_69 rfl ?_
    refine x_iconst 71 (-1 : Int32) dX9_quickest_71 (by decide) ?_
    refine x_icmp_eq 72 93 dX9_quickest_72 (by decide) (fun c13 => ?_) (fun c13 => ?_)
    · replace H := x_ifp c13 H
      exact x_wk (le_s (le_s (le_s (le_s (le_s (le_s (le_s (le_n le_0)))))))) (t_X9_quickest_93 l hκ50 H)
    · replace H := x_ifn c13 H
      refine x_iload 75 7 dX9_quickest_75 rfl ?_
      refine x_iload 77 5 dX9_quickest_77 rfl ?_
      refine x_icmp_lt 79 85 dX9_quickest_79 (by decide) (fun c14 => ?_) (fun c14 => ?_)
      · replace H := x_ifp c14 H
        refine x_iload 85 6 dX9_quickest_85 rfl ?_
        refine x_istore 87 4 [some (.ref v0), some (.int v1), some (.int v2), none, some (.int v6), some (.int v5), some (.int v6), some (.int r11)] dX9_quickest_87 rfl (Nat.le_of_ble_eq_true rfl) rfl ?_
        refine x_iload 89 7 dX9_quickest_89 rfl ?_
        refine x_istore 91 5 [some (.ref v0), some (.int v1), some (.int v2), none, some (.int v6), some (.int r11), some (.int v6), some (.int r11)] dX9_quickest_91 rfl (Nat.le_of_ble_eq_true rfl) rfl ?_
        exact x_wk (le_s (le_s (le_s (le_s (le_s (le_s (le_s (le_n le_0)))))))) (t_X9_quickest_93 l hκ50 H)
      · replace H := x_ifn c14 H
        refine x_goto 82 93 dX9_quickest_82 (by decide) ?_
        exact x_wk (le_s (le_s (le_s (le_s (le_s (le_s (le_s (le_n le_0)))))))) (t_X9_quickest_93 l hκ50 H)

def lp_X9_quickest_50 (n : Nat) : Nat → Int32 → Int32 → Int32 → Int32 → Int32 → XM → Option (Int32 × XM) := x_rec (fun _ _ _ _ _ _ _ => none) (bd_X9_quickest_50) n
theorem t_X9_quickest_50 (l : Launch) {q : Int32 × XM} : ∀ (n : Nat) (v0 : Nat) (v1 : Int32) (v2 : Int32) (v4 : Int32) (v5 : Int32) (v6 : Int32) (M : XM), lp_X9_quickest_50 n v0 v1 v2 v4 v5 v6 M = some q → AW l m_X9_quickest 4 0 0 (x_Ri q) 0 0 50 [some (.ref v0), some (.int v1), some (.int v2), none, some (.int v4), some (.int v5), some (.int v6), none] [] M := by
  intro n
  induction n with
  | zero => intro v0 v1 v2 v4 v5 v6 M H; cases H
  | succ n ih => intro v0 v1 v2 v4 v5 v6 M H; exact tb_X9_quickest_50 l ih H
def f_X9_quickest_29 (v0 : Nat) (v1 : Int32) (v2 : Int32) (v3 : Int32) (M : XM) : Option (Int32 × XM) :=
  if v3 = 0 then (lp_X9_quickest_50 x_fuel v0 v1 v2 (-1 : Int32) (401 : Int32) (0 : Int32) M) else (if x_tag M v0 = 9 + 10 then (x_bd (f_X9_noTen v0 v3 M) (fun r17 M16 => some (r17, M16))) else none)
set_option maxRecDepth 20000 in
set_option maxHeartbeats 4000000 in
theorem t_X9_quickest_29 (l : Launch) {v0 : Nat} {v1 : Int32} {v2 : Int32} {v3 : Int32} {M : XM} {q : Int32 × XM} (H : f_X9_quickest_29 v0 v1 v2 v3 M = some q) : AW l m_X9_quickest 4 0 0 (x_Ri q) 0 0 29 [some (.ref v0), some (.int v1), some (.int v2), some (.int v3), none, none, none, none] [] M := by
  unfold f_X9_quickest_29 at H
  refine x_iload_n 29 3 dX9_quickest_29 rfl rfl ?_
  refine x_if_eq 30 39 dX9_quickest_30 (by decide) (fun c7 => ?_) (fun c7 => ?_)
  · replace H := x_ifp c7 H
    refine x_iconst 39 (-1 : Int32) dX9_quickest_39 (by decide) ?_
    refine x_istore 40 4 [some (.ref v0), some (.int v1), some (.int v2), some (.int v3), some (.int (-1 : Int32)), none, none, none] dX9_quickest_40 rfl (Nat.le_of_ble_eq_true rfl) rfl ?_
    refine x_sipush 42 (401 : Int32) dX9_quickest_42 (by decide) ?_
    refine x_istore 45 5 [some (.ref v0), some (.int v1), some (.int v2), some (.int v3), some (.int (-1 : Int32)), some (.int (401 : Int32)), none, none] dX9_quickest_45 rfl (Nat.le_of_ble_eq_true rfl) rfl ?_
    refine x_iconst 47 (0 : Int32) dX9_quickest_47 (by decide) ?_
    refine x_istore 48 6 [some (.ref v0), some (.int v1), some (.int v2), some (.int v3), some (.int (-1 : Int32)), some (.int (401 : Int32)), some (.int (0 : Int32)), none] dX9_quickest_48 rfl (Nat.le_of_ble_eq_true rfl) rfl ?_
    exact x_wk (le_s (le_s (le_s (le_n (le_s (le_s (le_s (le_s le_0)))))))) (t_X9_quickest_50 l _ _ _ _ _ _ _ _ H)
  · replace H := x_ifn c7 H
    refine x_aload_n 33 0 dX9_quickest_33 rfl rfl ?_
    refine x_iload_n 34 3 dX9_quickest_34 rfl rfl ?_
    obtain ⟨h15, H⟩ := x_ckp H
    obtain ⟨r17, M16, e18, H⟩ := x_bd_of H
    refine x_callV 35 212 9 [(.int v3)] [] dX9_quickest_35 (ct_X9_noTen l e18) lk_1312 lk_1314 lk_59 (by decide) h15 lk_94 lk_1315 ⟨cn_X9_noTen, (by decide), by decide⟩ rfl (Nat.le_of_ble_eq_true rfl) (Nat.le_of_ble_eq_true rfl) (Nat.le_of_ble_eq_true rfl) (x_ri ?_)
    cases H
    exact x_iret 38 dX9_quickest_38 .int rfl rfl (Nat.le_of_ble_eq_true rfl) (Nat.le_of_ble_eq_true rfl) ⟨rfl, rfl⟩

def f_X9_quickest_26 (v0 : Nat) (v1 : Int32) (v2 : Int32) (M : XM) : Option (Int32 × XM) :=
  f_X9_quickest_29 v0 v1 v2 (-6 : Int32) M
set_option maxRecDepth 20000 in
set_option maxHeartbeats 4000000 in
theorem t_X9_quickest_26 (l : Launch) {v0 : Nat} {v1 : Int32} {v2 : Int32} {M : XM} {q : Int32 × XM} (H : f_X9_quickest_26 v0 v1 v2 M = some q) : AW l m_X9_quickest 4 0 0 (x_Ri q) 0 0 26 [some (.ref v0), some (.int v1), some (.int v2), none, none, none, none, none] [] M := by
  unfold f_X9_quickest_26 at H
  refine x_bipush 26 (-6 : Int32) dX9_quickest_26 (by decide) ?_
  refine x_istore_n 28 3 [some (.ref v0), some (.int v1), some (.int v2), some (.int (-6 : Int32)), none, none, none, none] dX9_quickest_28 rfl rfl (Nat.le_of_ble_eq_true rfl) rfl ?_
  exact t_X9_quickest_29 l H

def f_X9_quickest (v0 : Nat) (v1 : Int32) (v2 : Int32) (M : XM) : Option (Int32 × XM) :=
  if x_tag M v0 = 9 + 10 then (x_bd (f_X9_bars v0 v1 v2 M) (fun r3 M2 => if r3 = 0 then (if (40 : Int32) < v2 then (f_X9_quickest_26 v0 v1 v2 M2) else (if x_tag M2 v0 = 9 + 10 then (x_bd (f_X9_areSeconds v0 v1 v2 M2) (fun r21 M20 => if r21 = 0 then (f_X9_quickest_26 v0 v1 v2 M20) else (f_X9_quickest_29 v0 v1 v2 r3 M20))) else none)) else (f_X9_quickest_29 v0 v1 v2 r3 M2))) else none
set_option maxRecDepth 20000 in
set_option maxHeartbeats 4000000 in
theorem t_X9_quickest (l : Launch) {v0 : Nat} {v1 : Int32} {v2 : Int32} {M : XM} {q : Int32 × XM} (H : f_X9_quickest v0 v1 v2 M = some q) : AW l m_X9_quickest 4 0 0 (x_Ri q) 0 0 0 [some (.ref v0), some (.int v1), some (.int v2), none, none, none, none, none] [] M := by
  unfold f_X9_quickest at H
  refine x_aload_n 0 0 dX9_quickest_0 rfl rfl ?_
  refine x_iload_n 1 1 dX9_quickest_1 rfl rfl ?_
  refine x_iload_n 2 2 dX9_quickest_2 rfl rfl ?_
  obtain ⟨h1, H⟩ := x_ckp H
  obtain ⟨r3, M2, e4, H⟩ := x_bd_of H
  refine x_callV 3 206 9 [(.int v1), (.int v2)] [] dX9_quickest_3 (ct_X9_bars l e4) lk_1288 lk_1290 lk_54 (by decide) h1 lk_94 lk_1291 ⟨cn_X9_bars, (by decide), by decide⟩ rfl (Nat.le_of_ble_eq_true rfl) (Nat.le_of_ble_eq_true rfl) (Nat.le_of_ble_eq_true rfl) (x_ri ?_)
  refine x_istore_n 6 3 [some (.ref v0), some (.int v1), some (.int v2), some (.int r3), none, none, none, none] dX9_quickest_6 rfl rfl (Nat.le_of_ble_eq_true rfl) rfl ?_
  refine x_iload_n 7 3 dX9_quickest_7 rfl rfl ?_
  refine x_if_ne 8 29 dX9_quickest_8 (by decide) (fun c5 => ?_) (fun c5 => ?_)
  · replace H := x_ifn c5 H
    exact t_X9_quickest_29 l H
  · replace H := x_ifp c5 H
    refine x_iload_n 11 2 dX9_quickest_11 rfl rfl ?_
    refine x_bipush 12 (40 : Int32) dX9_quickest_12 (by decide) ?_
    refine x_icmp_gt 14 26 dX9_quickest_14 (by decide) (fun c6 => ?_) (fun c6 => ?_)
    · replace H := x_ifp c6 H
      exact x_wk (le_s (le_s (le_s (le_n (le_s (le_s (le_s (le_s le_0)))))))) (t_X9_quickest_26 l H)
    · replace H := x_ifn c6 H
      refine x_aload_n 17 0 dX9_quickest_17 rfl rfl ?_
      refine x_iload_n 18 1 dX9_quickest_18 rfl rfl ?_
      refine x_iload_n 19 2 dX9_quickest_19 rfl rfl ?_
      obtain ⟨h19, H⟩ := x_ckp H
      obtain ⟨r21, M20, e22, H⟩ := x_bd_of H
      refine x_callV 20 209 9 [(.int v1), (.int v2)] [] dX9_quickest_20 (ct_X9_areSeconds l e22) lk_1292 lk_1294 lk_55 (by decide) h19 lk_94 lk_1295 ⟨cn_X9_areSeconds, (by decide), by decide⟩ rfl (Nat.le_of_ble_eq_true rfl) (Nat.le_of_ble_eq_true rfl) (Nat.le_of_ble_eq_true rfl) (x_ri ?_)
      refine x_if_ne 23 29 dX9_quickest_23 (by decide) (fun c23 => ?_) (fun c23 => ?_)
      · replace H := x_ifn c23 H
        exact t_X9_quickest_29 l H
      · replace H := x_ifp c23 H
        exact x_wk (le_s (le_s (le_s (le_n (le_s (le_s (le_s (le_s le_0)))))))) (t_X9_quickest_26 l H)

theorem ct_X9_quickest (l : Launch) {v0 : Nat} {v1 : Int32} {v2 : Int32} {M : XM} {q : Int32 × XM} (H : f_X9_quickest v0 v1 v2 M = some q) : Ct l m_X9_quickest 4 0 0 [(.ref v0), (.int v1), (.int v2)] M (x_Ri q) := x_met l m_X9_quickest 4 0 0 [(.ref v0), (.int v1), (.int v2)] M (x_Ri q) _ rfl rfl (Nat.le_of_ble_eq_true rfl) (t_X9_quickest l H)
abbrev m_X9_compares : XU := (yX9_compares, cX9_compares, 5, none)
theorem cn_X9_compares : m_X9_compares.1.cls ≠ "java/lang/invoke/MethodHandle" ∧ m_X9_compares.1.cls ≠ "java/lang/invoke/VarHandle" ∧ (parseMethodDescriptor m_X9_compares.1.desc).map (fun q => q.parameters.length) = some 3 := by decide +kernel
def f_X9_compares_74 (κ36 : Nat → Int32 → Int32 → Int32 → Int32 → XM → Option XM) (v0 : Nat) (v1 : Int32) (v2 : Int32) (v3 : Int32) (v4 : Int32) (M : XM) : Option XM :=
  if x_tag M v0 = 9 + 10 then (if x_at M (x_r M v0 18) 1 v2 = true then (x_bv (f_X9_goes v0 v1 (v4 + (1 : Int32)) v2 (x_i M (x_r M v0 18) v2.toNatClampNeg) M) (fun M17 => κ36 v0 v1 v2 v3 (v4 + (1 : Int32)) M17)) else none) else none
set_option maxRecDepth 20000 in
set_option maxHeartbeats 4000000 in
theorem t_X9_compares_74 (l : Launch) {κ36 : Nat → Int32 → Int32 → Int32 → Int32 → XM → Option XM} {v0 : Nat} {v1 : Int32} {v2 : Int32} {v3 : Int32} {v4 : Int32} {M : XM} {q : XM} (hκ36 : ∀ (v0 : Nat) (v1 : Int32) (v2 : Int32) (v3 : Int32) (v4 : Int32) (M : XM), κ36 v0 v1 v2 v3 v4 M = some q → AW l m_X9_compares 3 0 0 (x_Rv q) 0 0 36 [some (.ref v0), some (.int v1), some (.int v2), some (.int v3), some (.int v4)] [] M) (H : f_X9_compares_74 κ36 v0 v1 v2 v3 v4 M = some q) : AW l m_X9_compares 3 0 0 (x_Rv q) 0 0 74 [some (.ref v0), some (.int v1), some (.int v2), some (.int v3), some (.int v4)] [] M := by
  unfold f_X9_compares_74 at H
  refine x_aload_n 74 0 dX9_compares_74 rfl rfl ?_
  refine x_iload_n 75 1 dX9_compares_75 rfl rfl ?_
  refine x_iload 76 4 dX9_compares_76 rfl ?_
  refine x_iconst 78 (1 : Int32) dX9_compares_78 (by decide) ?_
  refine x_iadd 79 dX9_compares_79 ?_
  refine x_iload_n 80 2 dX9_compares_80 rfl rfl ?_
  refine x_aload_n 81 0 dX9_compares_81 rfl rfl ?_
  obtain ⟨h15, H⟩ := x_ckp H
  refine x_getf 82 56 9 18 (.ref (x_r M v0 18)) dX9_compares_82 lk_1046 (by decide) (by decide) rfl (fun _ => rfl) h15 ?_
  refine x_iload_n 85 2 dX9_compares_85 rfl rfl ?_
  obtain ⟨h16, H⟩ := x_ckp H
  refine x_iald 86 dX9_compares_86 h16 ?_
  obtain ⟨M17, e19, H⟩ := x_bv_of H
  refine x_callV 87 202 9 [(.int v1), (.int (v4 + (1 : Int32))), (.int v2), (.int (x_i M (x_r M v0 18) v2.toNatClampNeg))] [] dX9_compares_87 (ct_X9_goes l e19) lk_1304 lk_1306 lk_58 (by decide) h15 lk_94 lk_1307 ⟨cn_X9_goes, (by decide), by decide⟩ rfl (Nat.le_of_ble_eq_true rfl) (Nat.le_of_ble_eq_true rfl) (Nat.le_of_ble_eq_true rfl) (x_rv ?_)
  refine x_iinc 90 4 (v4 + (1 : Int32)) [some (.ref v0), some (.int v1), some (.int v2), some (.int v3), some (.int (v4 + (1 : Int32)))] dX9_compares_90 rfl (congrArg (fun z : Int32 => v4 + z) (show Int32.ofInt (1) = (1 : Int32) by decide)) rfl (Nat.le_of_ble_eq_true rfl) rfl ?_
  refine x_goto 93 36 dX9_compares_93 (by decide) ?_
  exact hκ36 _ _ _ _ _ _ H

def bd_X9_compares_36 (κ36 : Nat → Int32 → Int32 → Int32 → Int32 → XM → Option XM) (v0 : Nat) (v1 : Int32) (v2 : Int32) (v3 : Int32) (v4 : Int32) (M : XM) : Option XM :=
  if (400 : Int32) < v4 then (some M) else (if x_tag M v0 = 9 + 10 then (if x_at M (x_r M v0 38) 1 (v3 + (x_i M v0 31)) = true then (if (x_i M (x_r M v0 38) (v3 + (x_i M v0 31)).toNatClampNeg) = (-1 : Int32) then (x_lt (x_wi M (x_r M v0 38) (v3 + (x_i M v0 31)).toNatClampNeg (x_i M v0 32)) (fun M10 => f_X9_compares_74 κ36 v0 v1 v2 v3 v4 M10)) else (f_X9_compares_74 κ36 v0 v1 v2 v3 v4 M)) else none) else none)
set_option maxRecDepth 20000 in
set_option maxHeartbeats 4000000 in
theorem tb_X9_compares_36 (l : Launch) {κ36 : Nat → Int32 → Int32 → Int32 → Int32 → XM → Option XM} {v0 : Nat} {v1 : Int32} {v2 : Int32} {v3 : Int32} {v4 : Int32} {M : XM} {q : XM} (hκ36 : ∀ (v0 : Nat) (v1 : Int32) (v2 : Int32) (v3 : Int32) (v4 : Int32) (M : XM), κ36 v0 v1 v2 v3 v4 M = some q → AW l m_X9_compares 3 0 0 (x_Rv q) 0 0 36 [some (.ref v0), some (.int v1), some (.int v2), some (.int v3), some (.int v4)] [] M) (H : bd_X9_compares_36 κ36 v0 v1 v2 v3 v4 M = some q) : AW l m_X9_compares 3 0 0 (x_Rv q) 0 0 36 [some (.ref v0), some (.int v1), some (.int v2), some (.int v3), some (.int v4)] [] M := by
  unfold bd_X9_compares_36 at H
  refine x_iload 36 4 dX9_compares_36 rfl ?_
  refine x_sipush 38 (400 : Int32) dX9_compares_38 (by decide) ?_
  refine x_icmp_gt 41 96 dX9_compares_41 (by decide) (fun c6 => ?_) (fun c6 => ?_)
  · replace H := x_ifp c6 H
    cases H
    exact x_vret 96 dX9_compares_96 rfl (Nat.le_of_ble_eq_true rfl) (Nat.le_of_ble_eq_true rfl) ⟨rfl, rfl⟩
  · replace H := x_ifn c6 H
    refine x_aload_n 44 0 dX9_compares_44 rfl rfl ?_
    obtain ⟨h7, H⟩ := x_ckp H
    refine x_getf 45 87 9 38 (.ref (x_r M v0 38)) dX9_compares_45 lk_1066 (by decide) (by decide) rfl (fun _ => rfl) h7 ?_
    refine x_iload_n 48 3 dX9_compares_48 rfl rfl ?_
    refine x_aload_n 49 0 dX9_compares_49 rfl rfl ?_
    refine x_getf 50 187 9 31 (.int (x_i M v0 31)) dX9_compares_50 lk_1059 (by decide) (by decide) rfl (fun _ => rfl) h7 ?_
    refine x_iadd 53 dX9_compares_53 ?_
    obtain ⟨h8, H⟩ := x_ckp H
    refine x_iald 54 dX9_compares_54 h8 ?_
    refine x_iconst 55 (-1 : Int32) dX9_compares_55 (by decide) ?_
    refine x_icmp_ne 56 74 dX9_compares_56 (by decide) (fun c9 => ?_) (fun c9 => ?_)
    · replace H := x_ifn c9 H
      exact t_X9_compares_74 l hκ36 H
    · replace H := x_ifp c9 H
      refine x_aload_n 59 0 dX9_compares_59 rfl rfl ?_
      refine x_getf 60 87 9 38 (.ref (x_r M v0 38)) dX9_compares_60 lk_1066 (by decide) (by decide) rfl (fun _ => rfl) h7 ?_
      refine x_iload_n 63 3 dX9_compares_63 rfl rfl ?_
      refine x_aload_n 64 0 dX9_compares_64 rfl rfl ?_
      refine x_getf 65 187 9 31 (.int (x_i M v0 31)) dX9_compares_65 lk_1059 (by decide) (by decide) rfl (fun _ => rfl) h7 ?_
      refine x_iadd 68 dX9_compares_68 ?_
      refine x_aload_n 69 0 dX9_compares_69 rfl rfl ?_
      refine x_getf 70 190 9 32 (.int (x_i M v0 32)) dX9_compares_70 lk_1060 (by decide) (by decide) rfl (fun _ => rfl) h7 ?_
      obtain ⟨M10, w11, H⟩ := x_lt_of H
      have h12 : x_tag M10 v0 = 9 + 10 := by rw [w11]; exact h7
      have h13 : x_at M10 (x_r M v0 38) 1 (v3 + (x_i M v0 31)) = true := by rw [w11]; exact h8
      have h14 : x_tag M10 (x_r M v0 38) = 1 := by rw [w11]; exact (x_at_1 h8)
      refine x_iast' 73 dX9_compares_73 h8 w11 ?_
      exact t_X9_compares_74 l hκ36 H

def lp_X9_compares_36 (n : Nat) : Nat → Int32 → Int32 → Int32 → Int32 → XM → Option XM := x_rec (fun _ _ _ _ _ _ => none) (bd_X9_compares_36) n
theorem t_X9_compares_36 (l : Launch) {q : XM} : ∀ (n : Nat) (v0 : Nat) (v1 : Int32) (v2 : Int32) (v3 : Int32) (v4 : Int32) (M : XM), lp_X9_compares_36 n v0 v1 v2 v3 v4 M = some q → AW l m_X9_compares 3 0 0 (x_Rv q) 0 0 36 [some (.ref v0), some (.int v1), some (.int v2), some (.int v3), some (.int v4)] [] M := by
  intro n
  induction n with
  | zero => intro v0 v1 v2 v3 v4 M H; cases H
  | succ n ih => intro v0 v1 v2 v3 v4 M H; exact tb_X9_compares_36 l ih H
def bd_X9_compares_3 (κ3 : Nat → Int32 → Int32 → Int32 → Int32 → XM → Option XM) (v0 : Nat) (v1 : Int32) (v2 : Int32) (v3 : Int32) (v4 : Int32) (M : XM) : Option XM :=
  if x_tag M v0 = 9 + 10 then (if (x_i M v0 1) < v4 then (x_bv (f_X9_begins v0 v1 M) (fun M3 => lp_X9_compares_36 x_fuel v0 v1 v2 v3 (0 : Int32) M3)) else (if x_at M (x_r M v0 38) 1 (v3 + v4) = true then (x_lt (x_wi M (x_r M v0 38) (v3 + v4).toNatClampNeg (-1 : Int32)) (fun M21 => κ3 v0 v1 v2 v3 (v4 + (1 : Int32)) M21)) else none)) else none
set_option maxRecDepth 20000 in
set_option maxHeartbeats 4000000 in
theorem tb_X9_compares_3 (l : Launch) {κ3 : Nat → Int32 → Int32 → Int32 → Int32 → XM → Option XM} {v0 : Nat} {v1 : Int32} {v2 : Int32} {v3 : Int32} {v4 : Int32} {M : XM} {q : XM} (hκ3 : ∀ (v0 : Nat) (v1 : Int32) (v2 : Int32) (v3 : Int32) (v4 : Int32) (M : XM), κ3 v0 v1 v2 v3 v4 M = some q → AW l m_X9_compares 3 0 0 (x_Rv q) 0 0 3 [some (.ref v0), some (.int v1), some (.int v2), some (.int v3), some (.int v4)] [] M) (H : bd_X9_compares_3 κ3 v0 v1 v2 v3 v4 M = some q) : AW l m_X9_compares 3 0 0 (x_Rv q) 0 0 3 [some (.ref v0), some (.int v1), some (.int v2), some (.int v3), some (.int v4)] [] M := by
  unfold bd_X9_compares_3 at H
  refine x_iload 3 4 dX9_compares_3 rfl ?_
  refine x_aload_n 5 0 dX9_compares_5 rfl rfl ?_
  obtain ⟨h1, H⟩ := x_ckp H
  refine x_getf 6 7 9 1 (.int (x_i M v0 1)) dX9_compares_6 lk_1029 (by decide) (by decide) rfl (fun _ => rfl) h1 ?_
  refine x_icmp_gt 9 28 dX9_compares_9 (by decide) (fun c2 => ?_) (fun c2 => ?_)
  · replace H := x_ifp c2 H
    refine x_aload_n 28 0 dX9_compares_28 rfl rfl ?_
    refine x_iload_n 29 1 dX9_compares_29 rfl rfl ?_
    obtain ⟨M3, e5, H⟩ := x_bv_of H
    refine x_callV 30 199 9 [(.int v1)] [] dX9_compares_30 (ct_X9_begins l e5) lk_1300 lk_1302 lk_57 (by decide) h1 lk_94 lk_1303 ⟨cn_X9_begins, (by decide), by decide⟩ rfl (Nat.le_of_ble_eq_true rfl) (Nat.le_of_ble_eq_true rfl) (Nat.le_of_ble_eq_true rfl) (x_rv ?_)
    refine x_iconst 33 (0 : Int32) dX9_compares_33 (by decide) ?_
    refine x_istore 34 4 [some (.ref v0), some (.int v1), some (.int v2), some (.int v3), some (.int (0 : Int32))] dX9_compares_34 rfl (Nat.le_of_ble_eq_true rfl) rfl ?_
    exact t_X9_compares_36 l _ _ _ _ _ _ _ H
  · replace H := x_ifn c2 H
    refine x_aload_n 12 0 dX9_compares_12 rfl rfl ?_
    refine x_getf 13 87 9 38 (.ref (x_r M v0 38)) dX9_compares_13 lk_1066 (by decide) (by decide) rfl (fun _ => rfl) h1 ?_
    refine x_iload_n 16 3 dX9_compares_16 rfl rfl ?_
    refine x_iload 17 4 dX9_compares_17 rfl ?_
    refine x_iadd 19 dX9_compares_19 ?_
    refine x_iconst 20 (-1 : Int32) dX9_compares_20 (by decide) ?_
    obtain ⟨h20, H⟩ := x_ckp H
    obtain ⟨M21, w22, H⟩ := x_lt_of H
    have h23 : x_tag M21 v0 = 9 + 10 := by rw [w22]; exact h1
    have h24 : x_at M21 (x_r M v0 38) 1 (v3 + v4) = true := by rw [w22]; exact h20
    have h25 : x_tag M21 (x_r M v0 38) = 1 := by rw [w22]; exact (x_at_1 h20)
    refine x_iast' 21 dX9_compares_21 h20 w22 ?_
    refine x_iinc 22 4 (v4 + (1 : Int32)) [some (.ref v0), some (.int v1), some (.int v2), some (.int v3), some (.int (v4 + (1 : Int32)))] dX9_compares_22 rfl (congrArg (fun z : Int32 => v4 + z) (show Int32.ofInt (1) = (1 : Int32) by decide)) rfl (Nat.le_of_ble_eq_true rfl) rfl ?_
    refine x_goto 25 3 dX9_compares_25 (by decide) ?_
    exact hκ3 _ _ _ _ _ _ H

def lp_X9_compares_3 (n : Nat) : Nat → Int32 → Int32 → Int32 → Int32 → XM → Option XM := x_rec (fun _ _ _ _ _ _ => none) (bd_X9_compares_3) n
theorem t_X9_compares_3 (l : Launch) {q : XM} : ∀ (n : Nat) (v0 : Nat) (v1 : Int32) (v2 : Int32) (v3 : Int32) (v4 : Int32) (M : XM), lp_X9_compares_3 n v0 v1 v2 v3 v4 M = some q → AW l m_X9_compares 3 0 0 (x_Rv q) 0 0 3 [some (.ref v0), some (.int v1), some (.int v2), some (.int v3), some (.int v4)] [] M := by
  intro n
  induction n with
  | zero => intro v0 v1 v2 v3 v4 M H; cases H
  | succ n ih => intro v0 v1 v2 v3 v4 M H; exact tb_X9_compares_3 l ih H
def f_X9_compares (v0 : Nat) (v1 : Int32) (v2 : Int32) (v3 : Int32) (M : XM) : Option XM :=
  lp_X9_compares_3 x_fuel v0 v1 v2 v3 (0 : Int32) M
set_option maxRecDepth 20000 in
set_option maxHeartbeats 4000000 in
theorem t_X9_compares (l : Launch) {v0 : Nat} {v1 : Int32} {v2 : Int32} {v3 : Int32} {M : XM} {q : XM} (H : f_X9_compares v0 v1 v2 v3 M = some q) : AW l m_X9_compares 3 0 0 (x_Rv q) 0 0 0 [some (.ref v0), some (.int v1), some (.int v2), some (.int v3), none] [] M := by
  unfold f_X9_compares at H
  refine x_iconst 0 (0 : Int32) dX9_compares_0 (by decide) ?_
  refine x_istore 1 4 [some (.ref v0), some (.int v1), some (.int v2), some (.int v3), some (.int (0 : Int32))] dX9_compares_1 rfl (Nat.le_of_ble_eq_true rfl) rfl ?_
  exact t_X9_compares_3 l _ _ _ _ _ _ _ H

theorem ct_X9_compares (l : Launch) {v0 : Nat} {v1 : Int32} {v2 : Int32} {v3 : Int32} {M : XM} {q : XM} (H : f_X9_compares v0 v1 v2 v3 M = some q) : Ct l m_X9_compares 3 0 0 [(.ref v0), (.int v1), (.int v2), (.int v3)] M (x_Rv q) := x_met l m_X9_compares 3 0 0 [(.ref v0), (.int v1), (.int v2), (.int v3)] M (x_Rv q) _ rfl rfl (Nat.le_of_ble_eq_true rfl) (t_X9_compares l H)
theorem lk_1409 : Cond.code yX9_compares cX9_compares 5 none ∈ x_TB := x_tb (k := 1409) (by decide +kernel) rfl
theorem lk_1406 : Cond.methodLink RX9 254 yX9_compares ∈ x_TB := x_tb (k := 1406) (by decide +kernel) rfl
theorem lk_71 : Cond.selects RX9 yX9_compares yX9_compares ∈ x_TB := x_tb (k := 71) (by decide +kernel) rfl
theorem lk_1408 : Cond.instanceMethod yX9_compares ∈ x_TB := x_tb (k := 1408) (by decide +kernel) rfl
abbrev m_X9_parted : XU := (yX9_parted, cX9_parted, 9, (some .int))
theorem cn_X9_parted : m_X9_parted.1.cls ≠ "java/lang/invoke/MethodHandle" ∧ m_X9_parted.1.cls ≠ "java/lang/invoke/VarHandle" ∧ (parseMethodDescriptor m_X9_parted.1.desc).map (fun q => q.parameters.length) = some 5 := by decide +kernel
def bd_X9_parted_216 (κ216 : Nat → Int32 → Int32 → XM → Option (Int32 × XM)) (v0 : Nat) (v5 : Int32) (v8 : Int32) (M : XM) : Option (Int32 × XM) :=
  if x_tag M v0 = 9 + 10 then (if (x_i M v0 1) < v8 then (some ((-1 : Int32), M)) else (if x_at M (x_r M v0 38) 1 v8 = true then (if x_at M (x_r M v0 38) 1 ((201 : Int32) + v8) = true then (if (x_i M (x_r M v0 38) v8.toNatClampNeg) = (x_i M (x_r M v0 38) ((201 : Int32) + v8).toNatClampNeg) then (κ216 v0 v5 (v8 + v5) M) else (some (v8, M))) else none) else none)) else none
set_option maxRecDepth 20000 in
set_option maxHeartbeats 4000000 in
theorem tb_X9_parted_216 (l : Launch) {κ216 : Nat → Int32 → Int32 → XM → Option (Int32 × XM)} {v0 : Nat} {v5 : Int32} {v8 : Int32} {M : XM} {q : Int32 × XM} (hκ216 : ∀ (v0 : Nat) (v5 : Int32) (v8 : Int32) (M : XM), κ216 v0 v5 v8 M = some q → AW l m_X9_parted 4 0 0 (x_Ri q) 0 0 216 [some (.ref v0), none, none, none, none, some (.int v5), none, none, some (.int v8)] [] M) (H : bd_X9_parted_216 κ216 v0 v5 v8 M = some q) : AW l m_X9_parted 4 0 0 (x_Ri q) 0 0 216 [some (.ref v0), none, none, none, none, some (.int v5), none, none, some (.int v8)] [] M := by
  unfold bd_X9_parted_216 at H
  refine x_iload 216 8 dX9_parted_216 rfl ?_
  refine x_aload_n 218 0 dX9_parted_218 rfl rfl ?_
  obtain ⟨h18, H⟩ := x_ckp H
  refine x_getf 219 7 9 1 (.int (x_i M v0 1)) dX9_parted_219 lk_1029 (by decide) (by decide) rfl (fun _ => rfl) h18 ?_
  refine x_icmp_gt 222 259 dX9_parted_222 (by decide) (fun c19 => ?_) (fun c19 => ?_)
  · replace H := x_ifp c19 H
    refine x_iconst 259 (-1 : Int32) dX9_parted_259 (by decide) ?_
    cases H
    exact x_iret 260 dX9_parted_260 .int rfl rfl (Nat.le_of_ble_eq_true rfl) (Nat.le_of_ble_eq_true rfl) ⟨rfl, rfl⟩
  · replace H := x_ifn c19 H
    refine x_aload_n 225 0 dX9_parted_225 rfl rfl ?_
    refine x_getf 226 87 9 38 (.ref (x_r M v0 38)) dX9_parted_226 lk_1066 (by decide) (by decide) rfl (fun _ => rfl) h18 ?_
    refine x_iload 229 8 dX9_parted_229 rfl ?_
    obtain ⟨h20, H⟩ := x_ckp H
    refine x_iald 231 dX9_parted_231 h20 ?_
    refine x_aload_n 232 0 dX9_parted_232 rfl rfl ?_
    refine x_getf 233 87 9 38 (.ref (x_r M v0 38)) dX9_parted_233 lk_1066 (by decide) (by decide) rfl (fun _ => rfl) h18 ?_
    refine x_sipush 236 (201 : Int32) dX9_parted_236 (by decide) ?_
    refine x_iload 239 8 dX9_parted_239 rfl ?_
    refine x_iadd 241 dX9_parted_241 ?_
    obtain ⟨h21, H⟩ := x_ckp H
    refine x_iald 242 dX9_parted_242 h21 ?_
    refine x_icmp_eq 243 249 dX9_parted_243 (by decide) (fun c22 => ?_) (fun c22 => ?_)
    · replace H := x_ifp c22 H
      refine x_iload 249 8 dX9_parted_249 rfl ?_
      refine x_iload 251 5 dX9_parted_251 rfl ?_
      refine x_iadd 253 dX9_parted_253 ?_
      refine x_istore 254 8 [some (.ref v0), none, none, none, none, some (.int v5), none, none, some (.int (v8 + v5))] dX9_parted_254 rfl (Nat.le_of_ble_eq_true rfl) rfl ?_
      refine x_goto 256 216 dX9_parted_256 (by decide) ?_
      exact hκ216 _ _ _ _ H
    · replace H := x_ifn c22 H
      refine x_iload 246 8 dX9_parted_246 rfl ?_
      cases H
      exact x_iret 248 dX9_parted_248 .int rfl rfl (Nat.le_of_ble_eq_true rfl) (Nat.le_of_ble_eq_true rfl) ⟨rfl, rfl⟩

def lp_X9_parted_216 (n : Nat) : Nat → Int32 → Int32 → XM → Option (Int32 × XM) := x_rec (fun _ _ _ _ => none) (bd_X9_parted_216) n
theorem t_X9_parted_216 (l : Launch) {q : Int32 × XM} : ∀ (n : Nat) (v0 : Nat) (v5 : Int32) (v8 : Int32) (M : XM), lp_X9_parted_216 n v0 v5 v8 M = some q → AW l m_X9_parted 4 0 0 (x_Ri q) 0 0 216 [some (.ref v0), none, none, none, none, some (.int v5), none, none, some (.int v8)] [] M := by
  intro n
  induction n with
  | zero => intro v0 v5 v8 M H; cases H
  | succ n ih => intro v0 v5 v8 M H; exact tb_X9_parted_216 l ih H
def f_X9_parted_183 (v0 : Nat) (v1 : Int32) (v2 : Int32) (v3 : Int32) (v4 : Int32) (v5 : Int32) (v7 : Int32) (M : XM) : Option (Int32 × XM) :=
  if v7 = 0 then (if x_tag M v0 = 9 + 10 then (x_bv (f_X9_compares v0 v1 v3 (0 : Int32) M) (fun M11 => if x_tag M11 v0 = 9 + 10 then (x_bv (f_X9_compares v0 v2 v4 (201 : Int32) M11) (fun M15 => lp_X9_parted_216 x_fuel v0 v5 v5 M15)) else none)) else none) else (if x_tag M v0 = 9 + 10 then (x_bd (f_X9_noTen v0 v7 M) (fun r25 M24 => some (r25, M24))) else none)
set_option maxRecDepth 20000 in
set_option maxHeartbeats 4000000 in
theorem t_X9_parted_183 (l : Launch) {v0 : Nat} {v1 : Int32} {v2 : Int32} {v3 : Int32} {v4 : Int32} {v5 : Int32} {v7 : Int32} {M : XM} {q : Int32 × XM} (H : f_X9_parted_183 v0 v1 v2 v3 v4 v5 v7 M = some q) : AW l m_X9_parted 4 0 0 (x_Ri q) 0 0 183 [some (.ref v0), some (.int v1), some (.int v2), some (.int v3), some (.int v4), some (.int v5), none, some (.int v7), none] [] M := by
  unfold f_X9_parted_183 at H
  refine x_iload 183 7 dX9_parted_183 rfl ?_
  refine x_if_eq 185 195 dX9_parted_185 (by decide) (fun c9 => ?_) (fun c9 => ?_)
  · replace H := x_ifp c9 H
    refine x_aload_n 195 0 dX9_parted_195 rfl rfl ?_
    refine x_iload_n 196 1 dX9_parted_196 rfl rfl ?_
    refine x_iload_n 197 3 dX9_parted_197 rfl rfl ?_
    refine x_iconst 198 (0 : Int32) dX9_parted_198 (by decide) ?_
    obtain ⟨h10, H⟩ := x_ckp H
    obtain ⟨M11, e13, H⟩ := x_bv_of H
    refine x_callV 199 254 9 [(.int v1), (.int v3), (.int (0 : Int32))] [] dX9_parted_199 (ct_X9_compares l e13) lk_1406 lk_1408 lk_71 (by decide) h10 lk_94 lk_1409 ⟨cn_X9_compares, (by decide), by decide⟩ rfl (Nat.le_of_ble_eq_true rfl) (Nat.le_of_ble_eq_true rfl) (Nat.le_of_ble_eq_true rfl) (x_rv ?_)
    refine x_aload_n 202 0 dX9_parted_202 rfl rfl ?_
    refine x_iload_n 203 2 dX9_parted_203 rfl rfl ?_
    refine x_iload 204 4 dX9_parted_204 rfl ?_
    refine x_sipush 206 (201 : Int32) dX9_parted_206 (by decide) ?_
    obtain ⟨h14, H⟩ := x_ckp H
    obtain ⟨M15, e17, H⟩ := x_bv_of H
    refine x_callV 209 254 9 [(.int v2), (.int v4), (.int (201 : Int32))] [] dX9_parted_209 (ct_X9_compares l e17) lk_1406 lk_1408 lk_71 (by decide) h14 lk_94 lk_1409 ⟨cn_X9_compares, (by decide), by decide⟩ rfl (Nat.le_of_ble_eq_true rfl) (Nat.le_of_ble_eq_true rfl) (Nat.le_of_ble_eq_true rfl) (x_rv ?_)
    refine x_iload 212 5 dX9_parted_212 rfl ?_
    refine x_istore 214 8 [some (.ref v0), some (.int v1), some (.int v2), some (.int v3), some (.int v4), some (.int v5), none, some (.int v7), some (.int v5)] dX9_parted_214 rfl (Nat.le_of_ble_eq_true rfl) rfl ?_
    exact x_wk (le_s (le_n (le_n (le_n (le_n (le_s (le_s (le_n (le_s le_0))))))))) (t_X9_parted_216 l _ _ _ _ _ H)
  · replace H := x_ifn c9 H
    refine x_aload_n 188 0 dX9_parted_188 rfl rfl ?_
    refine x_iload 189 7 dX9_parted_189 rfl ?_
    obtain ⟨h23, H⟩ := x_ckp H
    obtain ⟨r25, M24, e26, H⟩ := x_bd_of H
    refine x_callV 191 212 9 [(.int v7)] [] dX9_parted_191 (ct_X9_noTen l e26) lk_1312 lk_1314 lk_59 (by decide) h23 lk_94 lk_1315 ⟨cn_X9_noTen, (by decide), by decide⟩ rfl (Nat.le_of_ble_eq_true rfl) (Nat.le_of_ble_eq_true rfl) (Nat.le_of_ble_eq_true rfl) (x_ri ?_)
    cases H
    exact x_iret 194 dX9_parted_194 .int rfl rfl (Nat.le_of_ble_eq_true rfl) (Nat.le_of_ble_eq_true rfl) ⟨rfl, rfl⟩

def f_X9_parted_179 (v0 : Nat) (v1 : Int32) (v2 : Int32) (v3 : Int32) (v4 : Int32) (v5 : Int32) (M : XM) : Option (Int32 × XM) :=
  f_X9_parted_183 v0 v1 v2 v3 v4 v5 (-6 : Int32) M
set_option maxRecDepth 20000 in
set_option maxHeartbeats 4000000 in
theorem t_X9_parted_179 (l : Launch) {v0 : Nat} {v1 : Int32} {v2 : Int32} {v3 : Int32} {v4 : Int32} {v5 : Int32} {M : XM} {q : Int32 × XM} (H : f_X9_parted_179 v0 v1 v2 v3 v4 v5 M = some q) : AW l m_X9_parted 4 0 0 (x_Ri q) 0 0 179 [some (.ref v0), some (.int v1), some (.int v2), some (.int v3), some (.int v4), some (.int v5), none, none, none] [] M := by
  unfold f_X9_parted_179 at H
  refine x_bipush 179 (-6 : Int32) dX9_parted_179 (by decide) ?_
  refine x_istore 181 7 [some (.ref v0), some (.int v1), some (.int v2), some (.int v3), some (.int v4), some (.int v5), none, some (.int (-6 : Int32)), none] dX9_parted_181 rfl (Nat.le_of_ble_eq_true rfl) rfl ?_
  exact t_X9_parted_183 l H

def f_X9_parted_100 (v0 : Nat) (v1 : Int32) (v2 : Int32) (v3 : Int32) (v4 : Int32) (v5 : Int32) (s0 : Int32) (M : XM) : Option (Int32 × XM) :=
  if s0 = 0 then (if v1 = v2 then (f_X9_parted_179 v0 v1 v2 v3 v4 v5 M) else (if v5 < (1 : Int32) then (f_X9_parted_179 v0 v1 v2 v3 v4 v5 M) else (if (200 : Int32) < v5 then (f_X9_parted_179 v0 v1 v2 v3 v4 v5 M) else (if x_tag M v0 = 9 + 10 then (if x_at M (x_r M v0 18) 1 v3 = true then (if (40 : Int32) < (x_i M (x_r M v0 18) v3.toNatClampNeg) then (f_X9_parted_179 v0 v1 v2 v3 v4 v5 M) else (if x_at M (x_r M v0 18) 1 v4 = true then (if (40 : Int32) < (x_i M (x_r M v0 18) v4.toNatClampNeg) then (f_X9_parted_179 v0 v1 v2 v3 v4 v5 M) else (x_bd (f_X9_areSeconds v0 v3 (x_i M (x_r M v0 18) v3.toNatClampNeg) M) (fun r35 M34 => if r35 = 0 then (f_X9_parted_179 v0 v1 v2 v3 v4 v5 M34) else (if x_tag M34 v0 = 9 + 10 then (if x_at M34 (x_r M34 v0 18) 1 v4 = true then (x_bd (f_X9_areSeconds v0 v4 (x_i M34 (x_r M34 v0 18) v4.toNatClampNeg) M34) (fun r41 M40 => if r41 = 0 then (f_X9_parted_179 v0 v1 v2 v3 v4 v5 M40) else (f_X9_parted_183 v0 v1 v2 v3 v4 v5 s0 M40))) else none) else none)))) else none)) else none) else none)))) else (f_X9_parted_183 v0 v1 v2 v3 v4 v5 s0 M)
set_option maxRecDepth 20000 in
set_option maxHeartbeats 4000000 in
theorem t_X9_parted_100 (l : Launch) {v0 : Nat} {v1 : Int32} {v2 : Int32} {v3 : Int32} {v4 : Int32} {v5 : Int32} {s0 : Int32} {M : XM} {q : Int32 × XM} (H : f_X9_parted_100 v0 v1 v2 v3 v4 v5 s0 M = some q) : AW l m_X9_parted 4 0 0 (x_Ri q) 0 0 100 [some (.ref v0), some (.int v1), some (.int v2), some (.int v3), some (.int v4), some (.int v5), none, none, none] [(.int s0)] M := by
  unfold f_X9_parted_100 at H
  refine x_istore 100 7 [some (.ref v0), some (.int v1), some (.int v2), some (.int v3), some (.int v4), some (.int v5), none, some (.int s0), none] dX9_parted_100 rfl (Nat.le_of_ble_eq_true rfl) rfl ?_
  refine x_iload 102 7 dX9_parted_102 rfl ?_
  refine x_if_ne 104 183 dX9_parted_104 (by decide) (fun c7 => ?_) (fun c7 => ?_)
  · replace H := x_ifn c7 H
    exact t_X9_parted_183 l H
  · replace H := x_ifp c7 H
    refine x_iload_n 107 1 dX9_parted_107 rfl rfl ?_
    refine x_iload_n 108 2 dX9_parted_108 rfl rfl ?_
    refine x_icmp_eq 109 179 dX9_parted_109 (by decide) (fun c8 => ?_) (fun c8 => ?_)
    · replace H := x_ifp c8 H
      exact x_wk (le_s (le_s (le_s (le_s (le_s (le_s (le_s (le_n (le_s le_0))))))))) (t_X9_parted_179 l H)
    · replace H := x_ifn c8 H
      refine x_iload 112 5 dX9_parted_112 rfl ?_
      refine x_iconst 114 (1 : Int32) dX9_parted_114 (by decide) ?_
      refine x_icmp_lt 115 179 dX9_parted_115 (by decide) (fun c27 => ?_) (fun c27 => ?_)
      · replace H := x_ifp c27 H
        exact x_wk (le_s (le_s (le_s (le_s (le_s (le_s (le_s (le_n (le_s le_0))))))))) (t_X9_parted_179 l H)
      · replace H := x_ifn c27 H
        refine x_iload 118 5 dX9_parted_118 rfl ?_
        refine x_sipush 120 (200 : Int32) dX9_parted_120 (by decide) ?_
        refine x_icmp_gt 123 179 dX9_parted_123 (by decide) (fun c28 => ?_) (fun c28 => ?_)
        · replace H := x_ifp c28 H
          exact x_wk (le_s (le_s (le_s (le_s (le_s (le_s (le_s (le_n (le_s le_0))))))))) (t_X9_parted_179 l H)
        · replace H := x_ifn c28 H
          refine x_aload_n 126 0 dX9_parted_126 rfl rfl ?_
          obtain ⟨h29, H⟩ := x_ckp H
          refine x_getf 127 56 9 18 (.ref (x_r M v0 18)) dX9_parted_127 lk_1046 (by decide) (by decide) rfl (fun _ => rfl) h29 ?_
          refine x_iload_n 130 3 dX9_parted_130 rfl rfl ?_
          obtain ⟨h30, H⟩ := x_ckp H
          refine x_iald 131 dX9_parted_131 h30 ?_
          refine x_bipush 132 (40 : Int32) dX9_parted_132 (by decide) ?_
          refine x_icmp_gt 134 179 dX9_parted_134 (by decide) (fun c31 => ?_) (fun c31 => ?_)
          · replace H := x_ifp c31 H
            exact x_wk (le_s (le_s (le_s (le_s (le_s (le_s (le_s (le_n (le_s le_0))))))))) (t_X9_parted_179 l H)
          · replace H := x_ifn c31 H
            refine x_aload_n 137 0 dX9_parted_137 rfl rfl ?_
            refine x_getf 138 56 9 18 (.ref (x_r M v0 18)) dX9_parted_138 lk_1046 (by decide) (by decide) rfl (fun _ => rfl) h29 ?_
            refine x_iload 141 4 dX9_parted_141 rfl ?_
            obtain ⟨h32, H⟩ := x_ckp H
            refine x_iald 143 dX9_parted_143 h32 ?_
            refine x_bipush 144 (40 : Int32) dX9_parted_144 (by decide) ?_
            refine x_icmp_gt 146 179 dX9_parted_146 (by decide) (fun c33 => ?_) (fun c33 => ?_)
            · replace H := x_ifp c33 H
              exact x_wk (le_s (le_s (le_s (le_s (le_s (le_s (le_s (le_n (le_s le_0))))))))) (t_X9_parted_179 l H)
            · replace H := x_ifn c33 H
              refine x_aload_n 149 0 dX9_parted_149 rfl rfl ?_
              refine x_iload_n 150 3 dX9_parted_150 rfl rfl ?_
              refine x_aload_n 151 0 dX9_parted_151 rfl rfl ?_
              refine x_getf 152 56 9 18 (.ref (x_r M v0 18)) dX9_parted_152 lk_1046 (by decide) (by decide) rfl (fun _ => rfl) h29 ?_
              refine x_iload_n 155 3 dX9_parted_155 rfl rfl ?_
              refine x_iald 156 dX9_parted_156 h30 ?_
              obtain ⟨r35, M34, e36, H⟩ := x_bd_of H
              refine x_callV 157 209 9 [(.int v3), (.int (x_i M (x_r M v0 18) v3.toNatClampNeg))] [] dX9_parted_157 (ct_X9_areSeconds l e36) lk_1292 lk_1294 lk_55 (by decide) h29 lk_94 lk_1295 ⟨cn_X9_areSeconds, (by decide), by decide⟩ rfl (Nat.le_of_ble_eq_true rfl) (Nat.le_of_ble_eq_true rfl) (Nat.le_of_ble_eq_true rfl) (x_ri ?_)
              refine x_if_eq 160 179 dX9_parted_160 (by decide) (fun c37 => ?_) (fun c37 => ?_)
              · replace H := x_ifp c37 H
                exact x_wk (le_s (le_s (le_s (le_s (le_s (le_s (le_s (le_n (le_s le_0))))))))) (t_X9_parted_179 l H)
              · replace H := x_ifn c37 H
                refine x_aload_n 163 0 dX9_parted_163 rfl rfl ?_
                refine x_iload 164 4 dX9_parted_164 rfl ?_
                refine x_aload_n 166 0 dX9_parted_166 rfl rfl ?_
                obtain ⟨h38, H⟩ := x_ckp H
                refine x_getf 167 56 9 18 (.ref (x_r M34 v0 18)) dX9_parted_167 lk_1046 (by decide) (by decide) rfl (fun _ => rfl) h38 ?_
                refine x_iload 170 4 dX9_parted_170 rfl ?_
                obtain ⟨h39, H⟩ := x_ckp H
                refine x_iald 172 dX9_parted_172 h39 ?_
                obtain ⟨r41, M40, e42, H⟩ := x_bd_of H
                refine x_callV 173 209 9 [(.int v4), (.int (x_i M34 (x_r M34 v0 18) v4.toNatClampNeg))] [] dX9_parted_173 (ct_X9_areSeconds l e42) lk_1292 lk_1294 lk_55 (by decide) h38 lk_94 lk_1295 ⟨cn_X9_areSeconds, (by decide), by decide⟩ rfl (Nat.le_of_ble_eq_true rfl) (Nat.le_of_ble_eq_true rfl) (Nat.le_of_ble_eq_true rfl) (x_ri ?_)
                refine x_if_ne 176 183 dX9_parted_176 (by decide) (fun c43 => ?_) (fun c43 => ?_)
                · replace H := x_ifn c43 H
                  exact t_X9_parted_183 l H
                · replace H := x_ifp c43 H
                  exact x_wk (le_s (le_s (le_s (le_s (le_s (le_s (le_s (le_n (le_s le_0))))))))) (t_X9_parted_179 l H)

def f_X9_parted_70 (v0 : Nat) (v1 : Int32) (v2 : Int32) (v3 : Int32) (v4 : Int32) (v5 : Int32) (M : XM) : Option (Int32 × XM) :=
  f_X9_parted_100 v0 v1 v2 v3 v4 v5 (-2 : Int32) M
set_option maxRecDepth 20000 in
set_option maxHeartbeats 4000000 in
theorem t_X9_parted_70 (l : Launch) {v0 : Nat} {v1 : Int32} {v2 : Int32} {v3 : Int32} {v4 : Int32} {v5 : Int32} {M : XM} {q : Int32 × XM} (H : f_X9_parted_70 v0 v1 v2 v3 v4 v5 M = some q) : AW l m_X9_parted 4 0 0 (x_Ri q) 0 0 70 [some (.ref v0), some (.int v1), some (.int v2), some (.int v3), some (.int v4), some (.int v5), none, none, none] [] M := by
  unfold f_X9_parted_70 at H
  refine x_bipush 70 (-2 : Int32) dX9_parted_70 (by decide) ?_
  refine x_goto 72 100 dX9_parted_72 (by decide) ?_
  exact t_X9_parted_100 l H

def f_X9_parted_94 (v0 : Nat) (v1 : Int32) (v2 : Int32) (v3 : Int32) (v4 : Int32) (v5 : Int32) (M : XM) : Option (Int32 × XM) :=
  f_X9_parted_100 v0 v1 v2 v3 v4 v5 (-3 : Int32) M
set_option maxRecDepth 20000 in
set_option maxHeartbeats 4000000 in
theorem t_X9_parted_94 (l : Launch) {v0 : Nat} {v1 : Int32} {v2 : Int32} {v3 : Int32} {v4 : Int32} {v5 : Int32} {M : XM} {q : Int32 × XM} (H : f_X9_parted_94 v0 v1 v2 v3 v4 v5 M = some q) : AW l m_X9_parted 4 0 0 (x_Ri q) 0 0 94 [some (.ref v0), some (.int v1), some (.int v2), some (.int v3), some (.int v4), some (.int v5), none, none, none] [] M := by
  unfold f_X9_parted_94 at H
  refine x_bipush 94 (-3 : Int32) dX9_parted_94 (by decide) ?_
  refine x_goto 96 100 dX9_parted_96 (by decide) ?_
  exact t_X9_parted_100 l H

def f_X9_parted_38 (v0 : Nat) (v1 : Int32) (v2 : Int32) (v3 : Int32) (v4 : Int32) (v5 : Int32) (s0 : Int32) (M : XM) : Option (Int32 × XM) :=
  if s0 = 0 then (f_X9_parted_100 v0 v1 v2 v3 v4 v5 (-1 : Int32) M) else (if x_tag M v0 = 9 + 10 then (if x_at M (x_r M v0 16) 1 v3 = true then (if (x_i M (x_r M v0 16) v3.toNatClampNeg) = (2 : Int32) then (f_X9_parted_70 v0 v1 v2 v3 v4 v5 M) else (if x_at M (x_r M v0 16) 1 v4 = true then (if (x_i M (x_r M v0 16) v4.toNatClampNeg) = (2 : Int32) then (f_X9_parted_70 v0 v1 v2 v3 v4 v5 M) else (if (x_i M (x_r M v0 16) v3.toNatClampNeg) = 0 then (f_X9_parted_94 v0 v1 v2 v3 v4 v5 M) else (if (x_i M (x_r M v0 16) v4.toNatClampNeg) = 0 then (f_X9_parted_94 v0 v1 v2 v3 v4 v5 M) else (f_X9_parted_100 v0 v1 v2 v3 v4 v5 (0 : Int32) M)))) else none)) else none) else none)
set_option maxRecDepth 20000 in
set_option maxHeartbeats 4000000 in
theorem t_X9_parted_38 (l : Launch) {v0 : Nat} {v1 : Int32} {v2 : Int32} {v3 : Int32} {v4 : Int32} {v5 : Int32} {s0 : Int32} {M : XM} {q : Int32 × XM} (H : f_X9_parted_38 v0 v1 v2 v3 v4 v5 s0 M = some q) : AW l m_X9_parted 4 0 0 (x_Ri q) 0 0 38 [some (.ref v0), some (.int v1), some (.int v2), some (.int v3), some (.int v4), some (.int v5), none, none, none] [(.int s0)] M := by
  unfold f_X9_parted_38 at H
  refine x_istore 38 6 [some (.ref v0), some (.int v1), some (.int v2), some (.int v3), some (.int v4), some (.int v5), some (.int s0), none, none] dX9_parted_38 rfl (Nat.le_of_ble_eq_true rfl) rfl ?_
  refine x_iload 40 6 dX9_parted_40 rfl ?_
  refine x_if_ne 42 49 dX9_parted_42 (by decide) (fun c6 => ?_) (fun c6 => ?_)
  · replace H := x_ifn c6 H
    refine x_aload_n 49 0 dX9_parted_49 rfl rfl ?_
    obtain ⟨h44, H⟩ := x_ckp H
    refine x_getf 50 50 9 16 (.ref (x_r M v0 16)) dX9_parted_50 lk_1044 (by decide) (by decide) rfl (fun _ => rfl) h44 ?_
    refine x_iload_n 53 3 dX9_parted_53 rfl rfl ?_
    obtain ⟨h45, H⟩ := x_ckp H
    refine x_iald 54 dX9_parted_54 h45 ?_
    refine x_iconst 55 (2 : Int32) dX9_parted_55 (by decide) ?_
    refine x_icmp_eq 56 70 dX9_parted_56 (by decide) (fun c46 => ?_) (fun c46 => ?_)
    · replace H := x_ifp c46 H
      exact x_wk (le_s (le_s (le_s (le_s (le_s (le_s (le_n (le_s (le_s le_0))))))))) (t_X9_parted_70 l H)
    · replace H := x_ifn c46 H
      refine x_aload_n 59 0 dX9_parted_59 rfl rfl ?_
      refine x_getf 60 50 9 16 (.ref (x_r M v0 16)) dX9_parted_60 lk_1044 (by decide) (by decide) rfl (fun _ => rfl) h44 ?_
      refine x_iload 63 4 dX9_parted_63 rfl ?_
      obtain ⟨h47, H⟩ := x_ckp H
      refine x_iald 65 dX9_parted_65 h47 ?_
      refine x_iconst 66 (2 : Int32) dX9_parted_66 (by decide) ?_
      refine x_icmp_ne 67 75 dX9_parted_67 (by decide) (fun c48 => ?_) (fun c48 => ?_)
      · replace H := x_ifn c48 H
        refine x_aload_n 75 0 dX9_parted_75 rfl rfl ?_
        refine x_getf 76 50 9 16 (.ref (x_r M v0 16)) dX9_parted_76 lk_1044 (by decide) (by decide) rfl (fun _ => rfl) h44 ?_
        refine x_iload_n 79 3 dX9_parted_79 rfl rfl ?_
        refine x_iald 80 dX9_parted_80 h45 ?_
        refine x_if_eq 81 94 dX9_parted_81 (by decide) (fun c49 => ?_) (fun c49 => ?_)
        · replace H := x_ifp c49 H
          exact x_wk (le_s (le_s (le_s (le_s (le_s (le_s (le_n (le_s (le_s le_0))))))))) (t_X9_parted_94 l H)
        · replace H := x_ifn c49 H
          refine x_aload_n 84 0 dX9_parted_84 rfl rfl ?_
          refine x_getf 85 50 9 16 (.ref (x_r M v0 16)) dX9_parted_85 lk_1044 (by decide) (by decide) rfl (fun _ => rfl) h44 ?_
          refine x_iload 88 4 dX9_parted_88 rfl ?_
          refine x_iald 90 dX9_parted_90 h47 ?_
          refine x_if_ne 91 99 dX9_parted_91 (by decide) (fun c50 => ?_) (fun c50 => ?_)
          · replace H := x_ifn c50 H
            refine x_iconst 99 (0 : Int32) dX9_parted_99 (by decide) ?_
            exact x_wk (le_s (le_s (le_s (le_s (le_s (le_s (le_n (le_s (le_s le_0))))))))) (t_X9_parted_100 l H)
          · replace H := x_ifp c50 H
            exact x_wk (le_s (le_s (le_s (le_s (le_s (le_s (le_n (le_s (le_s le_0))))))))) (t_X9_parted_94 l H)
      · replace H := x_ifp c48 H
        exact x_wk (le_s (le_s (le_s (le_s (le_s (le_s (le_n (le_s (le_s le_0))))))))) (t_X9_parted_70 l H)
  · replace H := x_ifp c6 H
    refine x_iconst 45 (-1 : Int32) dX9_parted_45 (by decide) ?_
    refine x_goto 46 100 dX9_parted_46 (by decide) ?_
    exact x_wk (le_s (le_s (le_s (le_s (le_s (le_s (le_n (le_s (le_s le_0))))))))) (t_X9_parted_100 l H)

def f_X9_parted_37 (v0 : Nat) (v1 : Int32) (v2 : Int32) (v3 : Int32) (v4 : Int32) (v5 : Int32) (M : XM) : Option (Int32 × XM) :=
  f_X9_parted_38 v0 v1 v2 v3 v4 v5 (0 : Int32) M
set_option maxRecDepth 20000 in
set_option maxHeartbeats 4000000 in
theorem t_X9_parted_37 (l : Launch) {v0 : Nat} {v1 : Int32} {v2 : Int32} {v3 : Int32} {v4 : Int32} {v5 : Int32} {M : XM} {q : Int32 × XM} (H : f_X9_parted_37 v0 v1 v2 v3 v4 v5 M = some q) : AW l m_X9_parted 4 0 0 (x_Ri q) 0 0 37 [some (.ref v0), some (.int v1), some (.int v2), some (.int v3), some (.int v4), some (.int v5), none, none, none] [] M := by
  unfold f_X9_parted_37 at H
  refine x_iconst 37 (0 : Int32) dX9_parted_37 (by decide) ?_
  exact t_X9_parted_38 l H

def f_X9_parted (v0 : Nat) (v1 : Int32) (v2 : Int32) (v3 : Int32) (v4 : Int32) (v5 : Int32) (M : XM) : Option (Int32 × XM) :=
  if x_tag M v0 = 9 + 10 then (x_bd (f_X9_isCounter v0 v1 M) (fun r3 M2 => if r3 = 0 then (f_X9_parted_37 v0 v1 v2 v3 v4 v5 M2) else (if x_tag M2 v0 = 9 + 10 then (x_bd (f_X9_isCounter v0 v2 M2) (fun r53 M52 => if r53 = 0 then (f_X9_parted_37 v0 v1 v2 v3 v4 v5 M52) else (if x_tag M52 v0 = 9 + 10 then (x_bd (f_X9_isShelf v0 v3 M52) (fun r58 M57 => if r58 = 0 then (f_X9_parted_37 v0 v1 v2 v3 v4 v5 M57) else (if x_tag M57 v0 = 9 + 10 then (x_bd (f_X9_isShelf v0 v4 M57) (fun r63 M62 => if r63 = 0 then (f_X9_parted_37 v0 v1 v2 v3 v4 v5 M62) else (f_X9_parted_38 v0 v1 v2 v3 v4 v5 (1 : Int32) M62))) else none))) else none))) else none))) else none
set_option maxRecDepth 20000 in
set_option maxHeartbeats 4000000 in
theorem t_X9_parted (l : Launch) {v0 : Nat} {v1 : Int32} {v2 : Int32} {v3 : Int32} {v4 : Int32} {v5 : Int32} {M : XM} {q : Int32 × XM} (H : f_X9_parted v0 v1 v2 v3 v4 v5 M = some q) : AW l m_X9_parted 4 0 0 (x_Ri q) 0 0 0 [some (.ref v0), some (.int v1), some (.int v2), some (.int v3), some (.int v4), some (.int v5), none, none, none] [] M := by
  unfold f_X9_parted at H
  refine x_aload_n 0 0 dX9_parted_0 rfl rfl ?_
  refine x_iload_n 1 1 dX9_parted_1 rfl rfl ?_
  obtain ⟨h1, H⟩ := x_ckp H
  obtain ⟨r3, M2, e4, H⟩ := x_bd_of H
  refine x_callV 2 104 9 [(.int v1)] [] dX9_parted_2 (ct_X9_isCounter l e4) lk_1183 lk_1185 lk_38 (by decide) h1 lk_94 lk_1186 ⟨cn_X9_isCounter, (by decide), by decide⟩ rfl (Nat.le_of_ble_eq_true rfl) (Nat.le_of_ble_eq_true rfl) (Nat.le_of_ble_eq_true rfl) (x_ri ?_)
  refine x_if_eq 5 37 dX9_parted_5 (by decide) (fun c5 => ?_) (fun c5 => ?_)
  · replace H := x_ifp c5 H
    exact t_X9_parted_37 l H
  · replace H := x_ifn c5 H
    refine x_aload_n 8 0 dX9_parted_8 rfl rfl ?_
    refine x_iload_n 9 2 dX9_parted_9 rfl rfl ?_
    obtain ⟨h51, H⟩ := x_ckp H
    obtain ⟨r53, M52, e54, H⟩ := x_bd_of H
    refine x_callV 10 104 9 [(.int v2)] [] dX9_parted_10 (ct_X9_isCounter l e54) lk_1183 lk_1185 lk_38 (by decide) h51 lk_94 lk_1186 ⟨cn_X9_isCounter, (by decide), by decide⟩ rfl (Nat.le_of_ble_eq_true rfl) (Nat.le_of_ble_eq_true rfl) (Nat.le_of_ble_eq_true rfl) (x_ri ?_)
    refine x_if_eq 13 37 dX9_parted_13 (by decide) (fun c55 => ?_) (fun c55 => ?_)
    · replace H := x_ifp c55 H
      exact t_X9_parted_37 l H
    · replace H := x_ifn c55 H
      refine x_aload_n 16 0 dX9_parted_16 rfl rfl ?_
      refine x_iload_n 17 3 dX9_parted_17 rfl rfl ?_
      obtain ⟨h56, H⟩ := x_ckp H
      obtain ⟨r58, M57, e59, H⟩ := x_bd_of H
      refine x_callV 18 96 9 [(.int v3)] [] dX9_parted_18 (ct_X9_isShelf l e59) lk_1159 lk_1161 lk_36 (by decide) h56 lk_94 lk_1162 ⟨cn_X9_isShelf, (by decide), by decide⟩ rfl (Nat.le_of_ble_eq_true rfl) (Nat.le_of_ble_eq_true rfl) (Nat.le_of_ble_eq_true rfl) (x_ri ?_)
      refine x_if_eq 21 37 dX9_parted_21 (by decide) (fun c60 => ?_) (fun c60 => ?_)
      · replace H := x_ifp c60 H
        exact t_X9_parted_37 l H
      · replace H := x_ifn c60 H
        refine x_aload_n 24 0 dX9_parted_24 rfl rfl ?_
        refine x_iload 25 4 dX9_parted_25 rfl ?_
        obtain ⟨h61, H⟩ := x_ckp H
        obtain ⟨r63, M62, e64, H⟩ := x_bd_of H
        refine x_callV 27 96 9 [(.int v4)] [] dX9_parted_27 (ct_X9_isShelf l e64) lk_1159 lk_1161 lk_36 (by decide) h61 lk_94 lk_1162 ⟨cn_X9_isShelf, (by decide), by decide⟩ rfl (Nat.le_of_ble_eq_true rfl) (Nat.le_of_ble_eq_true rfl) (Nat.le_of_ble_eq_true rfl) (x_ri ?_)
        refine x_if_eq 30 37 dX9_parted_30 (by decide) (fun c65 => ?_) (fun c65 => ?_)
        · replace H := x_ifp c65 H
          exact t_X9_parted_37 l H
        · replace H := x_ifn c65 H
          refine x_iconst 33 (1 : Int32) dX9_parted_33 (by decide) ?_
          refine x_goto 34 38 dX9_parted_34 (by decide) ?_
          exact t_X9_parted_38 l H

theorem ct_X9_parted (l : Launch) {v0 : Nat} {v1 : Int32} {v2 : Int32} {v3 : Int32} {v4 : Int32} {v5 : Int32} {M : XM} {q : Int32 × XM} (H : f_X9_parted v0 v1 v2 v3 v4 v5 M = some q) : Ct l m_X9_parted 4 0 0 [(.ref v0), (.int v1), (.int v2), (.int v3), (.int v4), (.int v5)] M (x_Ri q) := x_met l m_X9_parted 4 0 0 [(.ref v0), (.int v1), (.int v2), (.int v3), (.int v4), (.int v5)] M (x_Ri q) _ rfl rfl (Nat.le_of_ble_eq_true rfl) (t_X9_parted l H)
abbrev m_X9_tally : XU := (yX9_tally, cX9_tally, 2, (some .int))
theorem cn_X9_tally : m_X9_tally.1.cls ≠ "java/lang/invoke/MethodHandle" ∧ m_X9_tally.1.cls ≠ "java/lang/invoke/VarHandle" ∧ (parseMethodDescriptor m_X9_tally.1.desc).map (fun q => q.parameters.length) = some 1 := by decide +kernel
def f_X9_tally_11 (v0 : Nat) (M : XM) : Option (Int32 × XM) :=
  if x_tag M v0 = 9 + 10 then (x_bd (f_X9_no v0 (-6 : Int32) M) (fun r4 M3 => some (r4, M3))) else none
set_option maxRecDepth 20000 in
set_option maxHeartbeats 4000000 in
theorem t_X9_tally_11 (l : Launch) {v0 : Nat} {M : XM} {q : Int32 × XM} (H : f_X9_tally_11 v0 M = some q) : AW l m_X9_tally 2 0 0 (x_Ri q) 0 0 11 [some (.ref v0), none] [] M := by
  unfold f_X9_tally_11 at H
  refine x_aload_n 11 0 dX9_tally_11 rfl rfl ?_
  refine x_bipush 12 (-6 : Int32) dX9_tally_12 (by decide) ?_
  obtain ⟨h2, H⟩ := x_ckp H
  obtain ⟨r4, M3, e5, H⟩ := x_bd_of H
  refine x_callV 14 100 9 [(.int (-6 : Int32))] [] dX9_tally_14 (ct_X9_no l e5) lk_1163 lk_1165 lk_37 (by decide) h2 lk_94 lk_1166 ⟨cn_X9_no, (by decide), by decide⟩ rfl (Nat.le_of_ble_eq_true rfl) (Nat.le_of_ble_eq_true rfl) (Nat.le_of_ble_eq_true rfl) (x_ri ?_)
  cases H
  exact x_iret 17 dX9_tally_17 .int rfl rfl (Nat.le_of_ble_eq_true rfl) (Nat.le_of_ble_eq_true rfl) ⟨rfl, rfl⟩

def f_X9_tally (v0 : Nat) (v1 : Int32) (M : XM) : Option (Int32 × XM) :=
  if v1 < 0 then (f_X9_tally_11 v0 M) else (if v1 ≤ (9999 : Int32) then (if x_tag M v0 = 9 + 10 then (if (x_i M v0 6) = (8 : Int32) then (x_bd (f_X9_no v0 (-7 : Int32) M) (fun r10 M9 => some (r10, M9))) else (if x_at M (x_r M v0 15) 1 (x_i M v0 6) = true then (x_lt (x_wi M (x_r M v0 15) (x_i M v0 6).toNatClampNeg v1) (fun M13 => x_lt (x_wi M13 v0 6 ((x_i M13 v0 6) + (1 : Int32))) (fun M18 => some ((x_i M18 v0 6), M18)))) else none)) else none) else (f_X9_tally_11 v0 M))
set_option maxRecDepth 20000 in
set_option maxHeartbeats 4000000 in
theorem t_X9_tally (l : Launch) {v0 : Nat} {v1 : Int32} {M : XM} {q : Int32 × XM} (H : f_X9_tally v0 v1 M = some q) : AW l m_X9_tally 2 0 0 (x_Ri q) 0 0 0 [some (.ref v0), some (.int v1)] [] M := by
  unfold f_X9_tally at H
  refine x_iload_n 0 1 dX9_tally_0 rfl rfl ?_
  refine x_if_lt 1 11 dX9_tally_1 (by decide) (fun c1 => ?_) (fun c1 => ?_)
  · replace H := x_ifp c1 H
    exact x_wk (le_s (le_n le_0)) (t_X9_tally_11 l H)
  · replace H := x_ifn c1 H
    refine x_iload_n 4 1 dX9_tally_4 rfl rfl ?_
    refine x_sipush 5 (9999 : Int32) dX9_tally_5 (by decide) ?_
    refine x_icmp_le 8 18 dX9_tally_8 (by decide) (fun c6 => ?_) (fun c6 => ?_)
    · replace H := x_ifp c6 H
      refine x_aload_n 18 0 dX9_tally_18 rfl rfl ?_
      obtain ⟨h7, H⟩ := x_ckp H
      refine x_getf 19 150 9 6 (.int (x_i M v0 6)) dX9_tally_19 lk_1034 (by decide) (by decide) rfl (fun _ => rfl) h7 ?_
      refine x_bipush 22 (8 : Int32) dX9_tally_22 (by decide) ?_
      refine x_icmp_ne 24 34 dX9_tally_24 (by decide) (fun c8 => ?_) (fun c8 => ?_)
      · replace H := x_ifn c8 H
        refine x_aload_n 34 0 dX9_tally_34 rfl rfl ?_
        refine x_getf 35 47 9 15 (.ref (x_r M v0 15)) dX9_tally_35 lk_1043 (by decide) (by decide) rfl (fun _ => rfl) h7 ?_
        refine x_aload_n 38 0 dX9_tally_38 rfl rfl ?_
        refine x_getf 39 150 9 6 (.int (x_i M v0 6)) dX9_tally_39 lk_1034 (by decide) (by decide) rfl (fun _ => rfl) h7 ?_
        refine x_iload_n 42 1 dX9_tally_42 rfl rfl ?_
        obtain ⟨h12, H⟩ := x_ckp H
        obtain ⟨M13, w14, H⟩ := x_lt_of H
        have h15 : x_tag M13 v0 = 9 + 10 := by rw [w14]; exact h7
        have h16 : x_at M13 (x_r M v0 15) 1 (x_i M v0 6) = true := by rw [w14]; exact h12
        have h17 : x_tag M13 (x_r M v0 15) = 1 := by rw [w14]; exact (x_at_1 h12)
        refine x_iast' 43 dX9_tally_43 h12 w14 ?_
        refine x_aload_n 44 0 dX9_tally_44 rfl rfl ?_
        refine x_dup 45 dX9_tally_45 rfl ?_
        refine x_getf 46 150 9 6 (.int (x_i M13 v0 6)) dX9_tally_46 lk_1034 (by decide) (by decide) rfl (fun _ => rfl) h15 ?_
        refine x_iconst 49 (1 : Int32) dX9_tally_49 (by decide) ?_
        refine x_iadd 50 dX9_tally_50 ?_
        obtain ⟨M18, w19, H⟩ := x_lt_of H
        have h20 : x_tag M18 v0 = 9 + 10 := by rw [w19]; exact h15
        have h21 : x_at M18 (x_r M v0 15) 1 (x_i M v0 6) = true := by rw [w19]; exact h16
        have h22 : x_tag M18 (x_r M v0 15) = 1 := by rw [w19]; exact h17
        refine x_putI' 51 150 9 6 dX9_tally_51 lk_1034 (by decide) (by decide) rfl (Or.inl rfl) (Or.inl rfl) h15 w19 ?_
        refine x_aload_n 54 0 dX9_tally_54 rfl rfl ?_
        refine x_getf 55 150 9 6 (.int (x_i M18 v0 6)) dX9_tally_55 lk_1034 (by decide) (by decide) rfl (fun _ => rfl) h20 ?_
        cases H
        exact x_iret 58 dX9_tally_58 .int rfl rfl (Nat.le_of_ble_eq_true rfl) (Nat.le_of_ble_eq_true rfl) ⟨rfl, rfl⟩
      · replace H := x_ifp c8 H
        refine x_aload_n 27 0 dX9_tally_27 rfl rfl ?_
        refine x_bipush 28 (-7 : Int32) dX9_tally_28 (by decide) ?_
        obtain ⟨r10, M9, e11, H⟩ := x_bd_of H
        refine x_callV 30 100 9 [(.int (-7 : Int32))] [] dX9_tally_30 (ct_X9_no l e11) lk_1163 lk_1165 lk_37 (by decide) h7 lk_94 lk_1166 ⟨cn_X9_no, (by decide), by decide⟩ rfl (Nat.le_of_ble_eq_true rfl) (Nat.le_of_ble_eq_true rfl) (Nat.le_of_ble_eq_true rfl) (x_ri ?_)
        cases H
        exact x_iret 33 dX9_tally_33 .int rfl rfl (Nat.le_of_ble_eq_true rfl) (Nat.le_of_ble_eq_true rfl) ⟨rfl, rfl⟩
    · replace H := x_ifn c6 H
      exact x_wk (le_s (le_n le_0)) (t_X9_tally_11 l H)

theorem ct_X9_tally (l : Launch) {v0 : Nat} {v1 : Int32} {M : XM} {q : Int32 × XM} (H : f_X9_tally v0 v1 M = some q) : Ct l m_X9_tally 2 0 0 [(.ref v0), (.int v1)] M (x_Ri q) := x_met l m_X9_tally 2 0 0 [(.ref v0), (.int v1)] M (x_Ri q) _ rfl rfl (Nat.le_of_ble_eq_true rfl) (t_X9_tally l H)
abbrev m_X9_haveIt : XU := (yX9_haveIt, cX9_haveIt, 4, (some .int))
theorem cn_X9_haveIt : m_X9_haveIt.1.cls ≠ "java/lang/invoke/MethodHandle" ∧ m_X9_haveIt.1.cls ≠ "java/lang/invoke/VarHandle" ∧ (parseMethodDescriptor m_X9_haveIt.1.desc).map (fun q => q.parameters.length) = some 1 := by decide +kernel
def f_X9_haveIt_25 (κ4 : Nat → Int32 → Int32 → Int32 → XM → Option (Int32 × XM)) (v0 : Nat) (v1 : Int32) (v2 : Int32) (v3 : Int32) (M : XM) : Option (Int32 × XM) :=
  κ4 v0 v1 v2 (v3 + (1 : Int32)) M
set_option maxRecDepth 20000 in
set_option maxHeartbeats 4000000 in
theorem t_X9_haveIt_25 (l : Launch) {κ4 : Nat → Int32 → Int32 → Int32 → XM → Option (Int32 × XM)} {v0 : Nat} {v1 : Int32} {v2 : Int32} {v3 : Int32} {M : XM} {q : Int32 × XM} (hκ4 : ∀ (v0 : Nat) (v1 : Int32) (v2 : Int32) (v3 : Int32) (M : XM), κ4 v0 v1 v2 v3 M = some q → AW l m_X9_haveIt 1 0 0 (x_Ri q) 0 0 4 [some (.ref v0), some (.int v1), some (.int v2), some (.int v3)] [] M) (H : f_X9_haveIt_25 κ4 v0 v1 v2 v3 M = some q) : AW l m_X9_haveIt 1 0 0 (x_Ri q) 0 0 25 [some (.ref v0), some (.int v1), some (.int v2), some (.int v3)] [] M := by
  unfold f_X9_haveIt_25 at H
  refine x_iinc 25 3 (v3 + (1 : Int32)) [some (.ref v0), some (.int v1), some (.int v2), some (.int (v3 + (1 : Int32)))] dX9_haveIt_25 rfl (congrArg (fun z : Int32 => v3 + z) (show Int32.ofInt (1) = (1 : Int32) by decide)) rfl (Nat.le_of_ble_eq_true rfl) rfl ?_
  refine x_goto 28 4 dX9_haveIt_28 (by decide) ?_
  exact hκ4 _ _ _ _ _ H

def bd_X9_haveIt_4 (κ4 : Nat → Int32 → Int32 → Int32 → XM → Option (Int32 × XM)) (v0 : Nat) (v1 : Int32) (v2 : Int32) (v3 : Int32) (M : XM) : Option (Int32 × XM) :=
  if x_tag M v0 = 9 + 10 then (if (x_i M v0 6) ≤ v3 then (some (v2, M)) else (if x_at M (x_r M v0 15) 1 v3 = true then (if (x_i M (x_r M v0 15) v3.toNatClampNeg) = v1 then (f_X9_haveIt_25 κ4 v0 v1 (v2 + (1 : Int32)) v3 M) else (f_X9_haveIt_25 κ4 v0 v1 v2 v3 M)) else none)) else none
set_option maxRecDepth 20000 in
set_option maxHeartbeats 4000000 in
theorem tb_X9_haveIt_4 (l : Launch) {κ4 : Nat → Int32 → Int32 → Int32 → XM → Option (Int32 × XM)} {v0 : Nat} {v1 : Int32} {v2 : Int32} {v3 : Int32} {M : XM} {q : Int32 × XM} (hκ4 : ∀ (v0 : Nat) (v1 : Int32) (v2 : Int32) (v3 : Int32) (M : XM), κ4 v0 v1 v2 v3 M = some q → AW l m_X9_haveIt 1 0 0 (x_Ri q) 0 0 4 [some (.ref v0), some (.int v1), some (.int v2), some (.int v3)] [] M) (H : bd_X9_haveIt_4 κ4 v0 v1 v2 v3 M = some q) : AW l m_X9_haveIt 1 0 0 (x_Ri q) 0 0 4 [some (.ref v0), some (.int v1), some (.int v2), some (.int v3)] [] M := by
  unfold bd_X9_haveIt_4 at H
  refine x_iload_n 4 3 dX9_haveIt_4 rfl rfl ?_
  refine x_aload_n 5 0 dX9_haveIt_5 rfl rfl ?_
  obtain ⟨h1, H⟩ := x_ckp H
  refine x_getf 6 150 9 6 (.int (x_i M v0 6)) dX9_haveIt_6 lk_1034 (by decide) (by decide) rfl (fun _ => rfl) h1 ?_
  refine x_icmp_ge 9 31 dX9_haveIt_9 (by decide) (fun c2 => ?_) (fun c2 => ?_)
  · replace H := x_ifp c2 H
    refine x_iload_n 31 2 dX9_haveIt_31 rfl rfl ?_
    cases H
    exact x_iret 32 dX9_haveIt_32 .int rfl rfl (Nat.le_of_ble_eq_true rfl) (Nat.le_of_ble_eq_true rfl) ⟨rfl, rfl⟩
  · replace H := x_ifn c2 H
    refine x_aload_n 12 0 dX9_haveIt_12 rfl rfl ?_
    refine x_getf 13 47 9 15 (.ref (x_r M v0 15)) dX9_haveIt_13 lk_1043 (by decide) (by decide) rfl (fun _ => rfl) h1 ?_
    refine x_iload_n 16 3 dX9_haveIt_16 rfl rfl ?_
    obtain ⟨h3, H⟩ := x_ckp H
    refine x_iald 17 dX9_haveIt_17 h3 ?_
    refine x_iload_n 18 1 dX9_haveIt_18 rfl rfl ?_
    refine x_icmp_ne 19 25 dX9_haveIt_19 (by decide) (fun c4 => ?_) (fun c4 => ?_)
    · replace H := x_ifn c4 H
      exact t_X9_haveIt_25 l hκ4 H
    · replace H := x_ifp c4 H
      refine x_iinc 22 2 (v2 + (1 : Int32)) [some (.ref v0), some (.int v1), some (.int (v2 + (1 : Int32))), some (.int v3)] dX9_haveIt_22 rfl (congrArg (fun z : Int32 => v2 + z) (show Int32.ofInt (1) = (1 : Int32) by decide)) rfl (Nat.le_of_ble_eq_true rfl) rfl ?_
      exact t_X9_haveIt_25 l hκ4 H

def lp_X9_haveIt_4 (n : Nat) : Nat → Int32 → Int32 → Int32 → XM → Option (Int32 × XM) := x_rec (fun _ _ _ _ _ => none) (bd_X9_haveIt_4) n
theorem t_X9_haveIt_4 (l : Launch) {q : Int32 × XM} : ∀ (n : Nat) (v0 : Nat) (v1 : Int32) (v2 : Int32) (v3 : Int32) (M : XM), lp_X9_haveIt_4 n v0 v1 v2 v3 M = some q → AW l m_X9_haveIt 1 0 0 (x_Ri q) 0 0 4 [some (.ref v0), some (.int v1), some (.int v2), some (.int v3)] [] M := by
  intro n
  induction n with
  | zero => intro v0 v1 v2 v3 M H; cases H
  | succ n ih => intro v0 v1 v2 v3 M H; exact tb_X9_haveIt_4 l ih H
def f_X9_haveIt (v0 : Nat) (v1 : Int32) (M : XM) : Option (Int32 × XM) :=
  lp_X9_haveIt_4 x_fuel v0 v1 (0 : Int32) (0 : Int32) M
set_option maxRecDepth 20000 in
set_option maxHeartbeats 4000000 in
theorem t_X9_haveIt (l : Launch) {v0 : Nat} {v1 : Int32} {M : XM} {q : Int32 × XM} (H : f_X9_haveIt v0 v1 M = some q) : AW l m_X9_haveIt 1 0 0 (x_Ri q) 0 0 0 [some (.ref v0), some (.int v1), none, none] [] M := by
  unfold f_X9_haveIt at H
  refine x_iconst 0 (0 : Int32) dX9_haveIt_0 (by decide) ?_
  refine x_istore_n 1 2 [some (.ref v0), some (.int v1), some (.int (0 : Int32)), none] dX9_haveIt_1 rfl rfl (Nat.le_of_ble_eq_true rfl) rfl ?_
  refine x_iconst 2 (0 : Int32) dX9_haveIt_2 (by decide) ?_
  refine x_istore_n 3 3 [some (.ref v0), some (.int v1), some (.int (0 : Int32)), some (.int (0 : Int32))] dX9_haveIt_3 rfl rfl (Nat.le_of_ble_eq_true rfl) rfl ?_
  exact t_X9_haveIt_4 l _ _ _ _ _ _ H

theorem ct_X9_haveIt (l : Launch) {v0 : Nat} {v1 : Int32} {M : XM} {q : Int32 × XM} (H : f_X9_haveIt v0 v1 M = some q) : Ct l m_X9_haveIt 1 0 0 [(.ref v0), (.int v1)] M (x_Ri q) := x_met l m_X9_haveIt 1 0 0 [(.ref v0), (.int v1)] M (x_Ri q) _ rfl rfl (Nat.le_of_ble_eq_true rfl) (t_X9_haveIt l H)
