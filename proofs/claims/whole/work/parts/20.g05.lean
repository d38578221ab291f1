theorem lk_436 : Cond.code yX6_hasCounter cX6_hasCounter 1 (some .boolean) ∈ x_TB := x_tb (k := 436) (by decide +kernel) rfl
theorem lk_433 : Cond.methodLink RX8 343 yX6_hasCounter ∈ x_TB := x_tb (k := 433) (by decide +kernel) rfl
theorem lk_435 : Cond.selects RX6 yX6_hasCounter yX6_hasCounter ∈ x_TB := x_tb (k := 435) (by decide +kernel) rfl
theorem lk_434 : Cond.instanceMethod yX6_hasCounter ∈ x_TB := x_tb (k := 434) (by decide +kernel) rfl
theorem lk_437 : Cond.methodLink RX8 137 yX6_hasRow ∈ x_TB := x_tb (k := 437) (by decide +kernel) rfl
abbrev m_X8_rowsRefusal : XU := (yX8_rowsRefusal, cX8_rowsRefusal, 3, (some .int))
theorem cn_X8_rowsRefusal : m_X8_rowsRefusal.1.cls ≠ "java/lang/invoke/MethodHandle" ∧ m_X8_rowsRefusal.1.cls ≠ "java/lang/invoke/VarHandle" ∧ (parseMethodDescriptor m_X8_rowsRefusal.1.desc).map (fun q => q.parameters.length) = some 2 := by decide +kernel
def f_X8_rowsRefusal_c61 (s0 : Int32) (M : XM) : Option (Int32 × XM) :=
  if s0 = 0 then (some ((-3 : Int32), M)) else (some ((0 : Int32), M))
set_option maxRecDepth 20000 in
set_option maxHeartbeats 4000000 in
theorem t_X8_rowsRefusal_c61 (l : Launch) {s0 : Int32} {M : XM} {q : Int32 × XM} (H : f_X8_rowsRefusal_c61 s0 M = some q) : AW l m_X8_rowsRefusal 2 0 0 (x_Ri q) 0 0 64 [none, none, none] [(.int s0)] M := by
  unfold f_X8_rowsRefusal_c61 at H
  refine x_if_eq 64 71 dX8_rowsRefusal_64 (by decide) (fun c36 => ?_) (fun c36 => ?_)
  · replace H := x_ifp c36 H
    refine x_bipush 71 (-3 : Int32) dX8_rowsRefusal_71 (by decide) ?_
    cases H
    exact x_iret 73 dX8_rowsRefusal_73 .int rfl rfl (Nat.le_of_ble_eq_true rfl) (Nat.le_of_ble_eq_true rfl) ⟨rfl, rfl⟩
  · replace H := x_ifn c36 H
    refine x_iconst 67 (0 : Int32) dX8_rowsRefusal_67 (by decide) ?_
    refine x_goto 68 73 dX8_rowsRefusal_68 (by decide) ?_
    cases H
    exact x_iret 73 dX8_rowsRefusal_73 .int rfl rfl (Nat.le_of_ble_eq_true rfl) (Nat.le_of_ble_eq_true rfl) ⟨rfl, rfl⟩

def f_X8_rowsRefusal_c49 (v0 : Nat) (v2 : Int32) (s0 : Int32) (M : XM) : Option (Int32 × XM) :=
  if s0 = 0 then (some ((-3 : Int32), M)) else (if x_tag M v0 = 8 + 10 then (if x_at M (x_r M v0 5) 4 v2 = true then (if x_tag M (x_r M (x_r M v0 5) v2.toNatClampNeg) = 6 + 10 then (x_bd (f_X6_hasRow (x_r M (x_r M v0 5) v2.toNatClampNeg) M) f_X8_rowsRefusal_c61) else none) else none) else none)
set_option maxRecDepth 20000 in
set_option maxHeartbeats 4000000 in
theorem t_X8_rowsRefusal_c49 (l : Launch) {v0 : Nat} {v2 : Int32} {s0 : Int32} {M : XM} {q : Int32 × XM} (H : f_X8_rowsRefusal_c49 v0 v2 s0 M = some q) : AW l m_X8_rowsRefusal 2 0 0 (x_Ri q) 0 0 52 [some (.ref v0), none, some (.int v2)] [(.int s0)] M := by
  unfold f_X8_rowsRefusal_c49 at H
  refine x_if_eq 52 71 dX8_rowsRefusal_52 (by decide) (fun c29 => ?_) (fun c29 => ?_)
  · replace H := x_ifp c29 H
    refine x_bipush 71 (-3 : Int32) dX8_rowsRefusal_71 (by decide) ?_
    cases H
    exact x_iret 73 dX8_rowsRefusal_73 .int rfl rfl (Nat.le_of_ble_eq_true rfl) (Nat.le_of_ble_eq_true rfl) ⟨rfl, rfl⟩
  · replace H := x_ifn c29 H
    refine x_aload_n 55 0 dX8_rowsRefusal_55 rfl rfl ?_
    obtain ⟨h30, H⟩ := x_ckp H
    refine x_getf 56 32 8 5 (.ref (x_r M v0 5)) dX8_rowsRefusal_56 lk_365 (by decide) (by decide) rfl (fun _ => rfl) h30 ?_
    refine x_iload_n 59 2 dX8_rowsRefusal_59 rfl rfl ?_
    obtain ⟨h31, H⟩ := x_ckp H
    refine x_aald4 60 dX8_rowsRefusal_60 h31 ?_
    obtain ⟨h32, H⟩ := x_ckp H
    obtain ⟨r34, M33, e35, H⟩ := x_bd_of H
    refine x_callV 61 137 6 [] [] dX8_rowsRefusal_61 (ct_X6_hasRow l e35) lk_437 lk_438 lk_439 (by decide) h32 lk_93 lk_440 ⟨cn_X6_hasRow, (by decide), by decide⟩ rfl (Nat.le_of_ble_eq_true rfl) (Nat.le_of_ble_eq_true rfl) (Nat.le_of_ble_eq_true rfl) (x_ri ?_)
    exact x_wk (le_n (le_s (le_n le_0))) (t_X8_rowsRefusal_c61 l H)

def f_X8_rowsRefusal_c34 (v0 : Nat) (v1 : Int32) (v2 : Int32) (s0 : Int32) (M : XM) : Option (Int32 × XM) :=
  if s0 = 0 then (if x_tag M v0 = 8 + 10 then (if x_at M (x_r M v0 5) 4 v1 = true then (if x_tag M (x_r M (x_r M v0 5) v1.toNatClampNeg) = 6 + 10 then (x_bd (f_X6_hasRow (x_r M (x_r M v0 5) v1.toNatClampNeg) M) (f_X8_rowsRefusal_c49 v0 v2)) else none) else none) else none) else (some ((-2 : Int32), M))
set_option maxRecDepth 20000 in
set_option maxHeartbeats 4000000 in
theorem t_X8_rowsRefusal_c34 (l : Launch) {v0 : Nat} {v1 : Int32} {v2 : Int32} {s0 : Int32} {M : XM} {q : Int32 × XM} (H : f_X8_rowsRefusal_c34 v0 v1 v2 s0 M = some q) : AW l m_X8_rowsRefusal 2 0 0 (x_Ri q) 0 0 37 [some (.ref v0), some (.int v1), some (.int v2)] [(.int s0)] M := by
  unfold f_X8_rowsRefusal_c34 at H
  refine x_if_eq 37 43 dX8_rowsRefusal_37 (by decide) (fun c22 => ?_) (fun c22 => ?_)
  · replace H := x_ifp c22 H
    refine x_aload_n 43 0 dX8_rowsRefusal_43 rfl rfl ?_
    obtain ⟨h23, H⟩ := x_ckp H
    refine x_getf 44 32 8 5 (.ref (x_r M v0 5)) dX8_rowsRefusal_44 lk_365 (by decide) (by decide) rfl (fun _ => rfl) h23 ?_
    refine x_iload_n 47 1 dX8_rowsRefusal_47 rfl rfl ?_
    obtain ⟨h24, H⟩ := x_ckp H
    refine x_aald4 48 dX8_rowsRefusal_48 h24 ?_
    obtain ⟨h25, H⟩ := x_ckp H
    obtain ⟨r27, M26, e28, H⟩ := x_bd_of H
    refine x_callV 49 137 6 [] [] dX8_rowsRefusal_49 (ct_X6_hasRow l e28) lk_437 lk_438 lk_439 (by decide) h25 lk_93 lk_440 ⟨cn_X6_hasRow, (by decide), by decide⟩ rfl (Nat.le_of_ble_eq_true rfl) (Nat.le_of_ble_eq_true rfl) (Nat.le_of_ble_eq_true rfl) (x_ri ?_)
    exact x_wk (le_s (le_n (le_s le_0))) (t_X8_rowsRefusal_c49 l H)
  · replace H := x_ifn c22 H
    refine x_bipush 40 (-2 : Int32) dX8_rowsRefusal_40 (by decide) ?_
    cases H
    exact x_iret 42 dX8_rowsRefusal_42 .int rfl rfl (Nat.le_of_ble_eq_true rfl) (Nat.le_of_ble_eq_true rfl) ⟨rfl, rfl⟩

def f_X8_rowsRefusal_c22 (v0 : Nat) (v1 : Int32) (v2 : Int32) (s0 : Int32) (M : XM) : Option (Int32 × XM) :=
  if s0 = 0 then (if x_tag M v0 = 8 + 10 then (if x_at M (x_r M v0 5) 4 v2 = true then (if x_tag M (x_r M (x_r M v0 5) v2.toNatClampNeg) = 6 + 10 then (x_bd (f_X6_hasCounter (x_r M (x_r M v0 5) v2.toNatClampNeg) M) (f_X8_rowsRefusal_c34 v0 v1 v2)) else none) else none) else none) else (some ((-2 : Int32), M))
set_option maxRecDepth 20000 in
set_option maxHeartbeats 4000000 in
theorem t_X8_rowsRefusal_c22 (l : Launch) {v0 : Nat} {v1 : Int32} {v2 : Int32} {s0 : Int32} {M : XM} {q : Int32 × XM} (H : f_X8_rowsRefusal_c22 v0 v1 v2 s0 M = some q) : AW l m_X8_rowsRefusal 2 0 0 (x_Ri q) 0 0 25 [some (.ref v0), some (.int v1), some (.int v2)] [(.int s0)] M := by
  unfold f_X8_rowsRefusal_c22 at H
  refine x_if_ne 25 40 dX8_rowsRefusal_25 (by decide) (fun c15 => ?_) (fun c15 => ?_)
  · replace H := x_ifn c15 H
    refine x_bipush 40 (-2 : Int32) dX8_rowsRefusal_40 (by decide) ?_
    cases H
    exact x_iret 42 dX8_rowsRefusal_42 .int rfl rfl (Nat.le_of_ble_eq_true rfl) (Nat.le_of_ble_eq_true rfl) ⟨rfl, rfl⟩
  · replace H := x_ifp c15 H
    refine x_aload_n 28 0 dX8_rowsRefusal_28 rfl rfl ?_
    obtain ⟨h16, H⟩ := x_ckp H
    refine x_getf 29 32 8 5 (.ref (x_r M v0 5)) dX8_rowsRefusal_29 lk_365 (by decide) (by decide) rfl (fun _ => rfl) h16 ?_
    refine x_iload_n 32 2 dX8_rowsRefusal_32 rfl rfl ?_
    obtain ⟨h17, H⟩ := x_ckp H
    refine x_aald4 33 dX8_rowsRefusal_33 h17 ?_
    obtain ⟨h18, H⟩ := x_ckp H
    obtain ⟨r20, M19, e21, H⟩ := x_bd_of H
    refine x_callV 34 343 6 [] [] dX8_rowsRefusal_34 (ct_X6_hasCounter l e21) lk_433 lk_434 lk_435 (by decide) h18 lk_93 lk_436 ⟨cn_X6_hasCounter, (by decide), by decide⟩ rfl (Nat.le_of_ble_eq_true rfl) (Nat.le_of_ble_eq_true rfl) (Nat.le_of_ble_eq_true rfl) (x_ri ?_)
    exact t_X8_rowsRefusal_c34 l H

def f_X8_rowsRefusal_c8 (v0 : Nat) (v1 : Int32) (v2 : Int32) (s0 : Int32) (M : XM) : Option (Int32 × XM) :=
  if s0 = 0 then (some ((-1 : Int32), M)) else (if x_tag M v0 = 8 + 10 then (if x_at M (x_r M v0 5) 4 v1 = true then (if x_tag M (x_r M (x_r M v0 5) v1.toNatClampNeg) = 6 + 10 then (x_bd (f_X6_hasCounter (x_r M (x_r M v0 5) v1.toNatClampNeg) M) (f_X8_rowsRefusal_c22 v0 v1 v2)) else none) else none) else none)
set_option maxRecDepth 20000 in
set_option maxHeartbeats 4000000 in
theorem t_X8_rowsRefusal_c8 (l : Launch) {v0 : Nat} {v1 : Int32} {v2 : Int32} {s0 : Int32} {M : XM} {q : Int32 × XM} (H : f_X8_rowsRefusal_c8 v0 v1 v2 s0 M = some q) : AW l m_X8_rowsRefusal 2 0 0 (x_Ri q) 0 0 11 [some (.ref v0), some (.int v1), some (.int v2)] [(.int s0)] M := by
  unfold f_X8_rowsRefusal_c8 at H
  refine x_if_ne 11 16 dX8_rowsRefusal_11 (by decide) (fun c8 => ?_) (fun c8 => ?_)
  · replace H := x_ifn c8 H
    refine x_aload_n 16 0 dX8_rowsRefusal_16 rfl rfl ?_
    obtain ⟨h9, H⟩ := x_ckp H
    refine x_getf 17 32 8 5 (.ref (x_r M v0 5)) dX8_rowsRefusal_17 lk_365 (by decide) (by decide) rfl (fun _ => rfl) h9 ?_
    refine x_iload_n 20 1 dX8_rowsRefusal_20 rfl rfl ?_
    obtain ⟨h10, H⟩ := x_ckp H
    refine x_aald4 21 dX8_rowsRefusal_21 h10 ?_
    obtain ⟨h11, H⟩ := x_ckp H
    obtain ⟨r13, M12, e14, H⟩ := x_bd_of H
    refine x_callV 22 343 6 [] [] dX8_rowsRefusal_22 (ct_X6_hasCounter l e14) lk_433 lk_434 lk_435 (by decide) h11 lk_93 lk_436 ⟨cn_X6_hasCounter, (by decide), by decide⟩ rfl (Nat.le_of_ble_eq_true rfl) (Nat.le_of_ble_eq_true rfl) (Nat.le_of_ble_eq_true rfl) (x_ri ?_)
    exact t_X8_rowsRefusal_c22 l H
  · replace H := x_ifp c8 H
    refine x_iconst 14 (-1 : Int32) dX8_rowsRefusal_14 (by decide) ?_
    cases H
    exact x_iret 15 dX8_rowsRefusal_15 .int rfl rfl (Nat.le_of_ble_eq_true rfl) (Nat.le_of_ble_eq_true rfl) ⟨rfl, rfl⟩

def f_X8_rowsRefusal_c1 (v0 : Nat) (v1 : Int32) (v2 : Int32) (s0 : Int32) (M : XM) : Option (Int32 × XM) :=
  if s0 = 0 then (some ((-1 : Int32), M)) else (x_bd (f_X8_isShelf v2 M) (f_X8_rowsRefusal_c8 v0 v1 v2))
set_option maxRecDepth 20000 in
set_option maxHeartbeats 4000000 in
theorem t_X8_rowsRefusal_c1 (l : Launch) {v0 : Nat} {v1 : Int32} {v2 : Int32} {s0 : Int32} {M : XM} {q : Int32 × XM} (H : f_X8_rowsRefusal_c1 v0 v1 v2 s0 M = some q) : AW l m_X8_rowsRefusal 2 0 0 (x_Ri q) 0 0 4 [some (.ref v0), some (.int v1), some (.int v2)] [(.int s0)] M := by
  unfold f_X8_rowsRefusal_c1 at H
  refine x_if_eq 4 14 dX8_rowsRefusal_4 (by decide) (fun c4 => ?_) (fun c4 => ?_)
  · replace H := x_ifp c4 H
    refine x_iconst 14 (-1 : Int32) dX8_rowsRefusal_14 (by decide) ?_
    cases H
    exact x_iret 15 dX8_rowsRefusal_15 .int rfl rfl (Nat.le_of_ble_eq_true rfl) (Nat.le_of_ble_eq_true rfl) ⟨rfl, rfl⟩
  · replace H := x_ifn c4 H
    refine x_iload_n 7 2 dX8_rowsRefusal_7 rfl rfl ?_
    obtain ⟨r6, M5, e7, H⟩ := x_bd_of H
    refine x_callS 8 82 [(.int v2)] [] dX8_rowsRefusal_8 (ct_X8_isShelf l e7) lk_407 lk_408 lk_85 lk_409 ⟨cn_X8_isShelf, (by decide), by decide⟩ rfl (Nat.le_of_ble_eq_true rfl) (Nat.le_of_ble_eq_true rfl) (Nat.le_of_ble_eq_true rfl) (x_ri ?_)
    exact t_X8_rowsRefusal_c8 l H

def f_X8_rowsRefusal (v0 : Nat) (v1 : Int32) (v2 : Int32) (M : XM) : Option (Int32 × XM) :=
  x_bd (f_X8_isShelf v1 M) (f_X8_rowsRefusal_c1 v0 v1 v2)
set_option maxRecDepth 20000 in
set_option maxHeartbeats 4000000 in
theorem t_X8_rowsRefusal (l : Launch) {v0 : Nat} {v1 : Int32} {v2 : Int32} {M : XM} {q : Int32 × XM} (H : f_X8_rowsRefusal v0 v1 v2 M = some q) : AW l m_X8_rowsRefusal 2 0 0 (x_Ri q) 0 0 0 [some (.ref v0), some (.int v1), some (.int v2)] [] M := by
  unfold f_X8_rowsRefusal at H
  refine x_iload_n 0 1 dX8_rowsRefusal_0 rfl rfl ?_
  obtain ⟨r2, M1, e3, H⟩ := x_bd_of H
  refine x_callS 1 82 [(.int v1)] [] dX8_rowsRefusal_1 (ct_X8_isShelf l e3) lk_407 lk_408 lk_85 lk_409 ⟨cn_X8_isShelf, (by decide), by decide⟩ rfl (Nat.le_of_ble_eq_true rfl) (Nat.le_of_ble_eq_true rfl) (Nat.le_of_ble_eq_true rfl) (x_ri ?_)
  exact t_X8_rowsRefusal_c1 l H

theorem ct_X8_rowsRefusal (l : Launch) {v0 : Nat} {v1 : Int32} {v2 : Int32} {M : XM} {q : Int32 × XM} (H : f_X8_rowsRefusal v0 v1 v2 M = some q) : Ct l m_X8_rowsRefusal 2 0 0 [(.ref v0), (.int v1), (.int v2)] M (x_Ri q) := x_met l m_X8_rowsRefusal 2 0 0 [(.ref v0), (.int v1), (.int v2)] M (x_Ri q) _ rfl rfl (Nat.le_of_ble_eq_true rfl) (t_X8_rowsRefusal l H)
theorem lk_432 : Cond.code yX8_rowsRefusal cX8_rowsRefusal 3 (some .int) ∈ x_TB := x_tb (k := 432) (by decide +kernel) rfl
theorem lk_429 : Cond.methodLink RX8 104 yX8_rowsRefusal ∈ x_TB := x_tb (k := 429) (by decide +kernel) rfl
theorem lk_2 : Cond.selects RX8 yX8_rowsRefusal yX8_rowsRefusal ∈ x_TB := x_tb (k := 2) (by decide +kernel) rfl
theorem lk_431 : Cond.instanceMethod yX8_rowsRefusal ∈ x_TB := x_tb (k := 431) (by decide +kernel) rfl
abbrev m_X8_rowRefusal : XU := (yX8_rowRefusal, cX8_rowRefusal, 2, (some .int))
theorem cn_X8_rowRefusal : m_X8_rowRefusal.1.cls ≠ "java/lang/invoke/MethodHandle" ∧ m_X8_rowRefusal.1.cls ≠ "java/lang/invoke/VarHandle" ∧ (parseMethodDescriptor m_X8_rowRefusal.1.desc).map (fun q => q.parameters.length) = some 1 := by decide +kernel
def f_X8_rowRefusal (v0 : Nat) (v1 : Int32) (M : XM) : Option (Int32 × XM) :=
  if x_tag M v0 = 8 + 10 then (x_bd (f_X8_rowsRefusal v0 v1 v1 M) (fun r3 M2 => some (r3, M2))) else none
set_option maxRecDepth 20000 in
set_option maxHeartbeats 4000000 in
theorem t_X8_rowRefusal (l : Launch) {v0 : Nat} {v1 : Int32} {M : XM} {q : Int32 × XM} (H : f_X8_rowRefusal v0 v1 M = some q) : AW l m_X8_rowRefusal 3 0 0 (x_Ri q) 0 0 0 [some (.ref v0), some (.int v1)] [] M := by
  unfold f_X8_rowRefusal at H
  refine x_aload_n 0 0 dX8_rowRefusal_0 rfl rfl ?_
  refine x_iload_n 1 1 dX8_rowRefusal_1 rfl rfl ?_
  refine x_iload_n 2 1 dX8_rowRefusal_2 rfl rfl ?_
  obtain ⟨h1, H⟩ := x_ckp H
  obtain ⟨r3, M2, e4, H⟩ := x_bd_of H
  refine x_callV 3 104 8 [(.int v1), (.int v1)] [] dX8_rowRefusal_3 (ct_X8_rowsRefusal l e4) lk_429 lk_431 lk_2 (by decide) h1 lk_85 lk_432 ⟨cn_X8_rowsRefusal, (by decide), by decide⟩ rfl (Nat.le_of_ble_eq_true rfl) (Nat.le_of_ble_eq_true rfl) (Nat.le_of_ble_eq_true rfl) (x_ri ?_)
  cases H
  exact x_iret 6 dX8_rowRefusal_6 .int rfl rfl (Nat.le_of_ble_eq_true rfl) (Nat.le_of_ble_eq_true rfl) ⟨rfl, rfl⟩

theorem ct_X8_rowRefusal (l : Launch) {v0 : Nat} {v1 : Int32} {M : XM} {q : Int32 × XM} (H : f_X8_rowRefusal v0 v1 M = some q) : Ct l m_X8_rowRefusal 3 0 0 [(.ref v0), (.int v1)] M (x_Ri q) := x_met l m_X8_rowRefusal 3 0 0 [(.ref v0), (.int v1)] M (x_Ri q) _ rfl rfl (Nat.le_of_ble_eq_true rfl) (t_X8_rowRefusal l H)
theorem lk_428 : Cond.code yX8_rowRefusal cX8_rowRefusal 2 (some .int) ∈ x_TB := x_tb (k := 428) (by decide +kernel) rfl
theorem lk_425 : Cond.methodLink RX8 94 yX8_rowRefusal ∈ x_TB := x_tb (k := 425) (by decide +kernel) rfl
theorem lk_1 : Cond.selects RX8 yX8_rowRefusal yX8_rowRefusal ∈ x_TB := x_tb (k := 1) (by decide +kernel) rfl
theorem lk_427 : Cond.instanceMethod yX8_rowRefusal ∈ x_TB := x_tb (k := 427) (by decide +kernel) rfl
theorem lk_441 : Cond.methodLink RX8 97 yX6_hasElement ∈ x_TB := x_tb (k := 441) (by decide +kernel) rfl
theorem lk_448 : Cond.code yX6_become cX6_become 4 none ∈ x_TB := x_tb (k := 448) (by decide +kernel) rfl
theorem lk_445 : Cond.methodLink RX8 100 yX6_become ∈ x_TB := x_tb (k := 445) (by decide +kernel) rfl
theorem lk_447 : Cond.selects RX6 yX6_become yX6_become ∈ x_TB := x_tb (k := 447) (by decide +kernel) rfl
theorem lk_446 : Cond.instanceMethod yX6_become ∈ x_TB := x_tb (k := 446) (by decide +kernel) rfl
abbrev m_X8_set : XU := (yX8_set, cX8_set, 6, (some .int))
theorem cn_X8_set : m_X8_set.1.cls ≠ "java/lang/invoke/MethodHandle" ∧ m_X8_set.1.cls ≠ "java/lang/invoke/VarHandle" ∧ (parseMethodDescriptor m_X8_set.1.desc).map (fun q => q.parameters.length) = some 3 := by decide +kernel
def f_X8_set_29 (v0 : Nat) (v1 : Int32) (v2 : Int32) (v3 : Int64) (v5 : Int32) (M : XM) : Option (Int32 × XM) :=
  if v5 = 0 then (if x_tag M v0 = 8 + 10 then (if x_at M (x_r M v0 5) 4 v1 = true then (if x_tag M (x_r M (x_r M v0 5) v1.toNatClampNeg) = 6 + 10 then (x_bv (f_X6_become (x_r M (x_r M v0 5) v1.toNatClampNeg) v2 v3 M) (fun M17 => some ((1 : Int32), M17))) else none) else none) else none) else (if x_tag M v0 = 8 + 10 then (x_bd (f_X8_refuse v0 v5 M) (fun r22 M21 => some (r22, M21))) else none)
set_option maxRecDepth 20000 in
set_option maxHeartbeats 4000000 in
theorem t_X8_set_29 (l : Launch) {v0 : Nat} {v1 : Int32} {v2 : Int32} {v3 : Int64} {v5 : Int32} {M : XM} {q : Int32 × XM} (H : f_X8_set_29 v0 v1 v2 v3 v5 M = some q) : AW l m_X8_set 4 0 0 (x_Ri q) 0 0 29 [some (.ref v0), some (.int v1), some (.int v2), some (.long v3), none, some (.int v5)] [] M := by
  unfold f_X8_set_29 at H
  refine x_iload 29 5 dX8_set_29 rfl ?_
  refine x_if_eq 31 41 dX8_set_31 (by decide) (fun c13 => ?_) (fun c13 => ?_)
  · replace H := x_ifp c13 H
    refine x_aload_n 41 0 dX8_set_41 rfl rfl ?_
    obtain ⟨h14, H⟩ := x_ckp H
    refine x_getf 42 32 8 5 (.ref (x_r M v0 5)) dX8_set_42 lk_365 (by decide) (by decide) rfl (fun _ => rfl) h14 ?_
    refine x_iload_n 45 1 dX8_set_45 rfl rfl ?_
    obtain ⟨h15, H⟩ := x_ckp H
    refine x_aald4 46 dX8_set_46 h15 ?_
    refine x_iload_n 47 2 dX8_set_47 rfl rfl ?_
    refine x_lload_n 48 3 dX8_set_48 rfl rfl ?_
    obtain ⟨h16, H⟩ := x_ckp H
    obtain ⟨M17, e19, H⟩ := x_bv_of H
    refine x_callV 49 100 6 [(.int v2), (.long v3)] [] dX8_set_49 (ct_X6_become l e19) lk_445 lk_446 lk_447 (by decide) h16 lk_93 lk_448 ⟨cn_X6_become, (by decide), by decide⟩ rfl (Nat.le_of_ble_eq_true rfl) (Nat.le_of_ble_eq_true rfl) (Nat.le_of_ble_eq_true rfl) (x_rv ?_)
    refine x_iconst 52 (1 : Int32) dX8_set_52 (by decide) ?_
    cases H
    exact x_iret 53 dX8_set_53 .int rfl rfl (Nat.le_of_ble_eq_true rfl) (Nat.le_of_ble_eq_true rfl) ⟨rfl, rfl⟩
  · replace H := x_ifn c13 H
    refine x_aload_n 34 0 dX8_set_34 rfl rfl ?_
    refine x_iload 35 5 dX8_set_35 rfl ?_
    obtain ⟨h20, H⟩ := x_ckp H
    obtain ⟨r22, M21, e23, H⟩ := x_bd_of H
    refine x_callV 37 86 8 [(.int v5)] [] dX8_set_37 (ct_X8_refuse l e23) lk_410 lk_412 lk_0 (by decide) h20 lk_85 lk_413 ⟨cn_X8_refuse, (by decide), by decide⟩ rfl (Nat.le_of_ble_eq_true rfl) (Nat.le_of_ble_eq_true rfl) (Nat.le_of_ble_eq_true rfl) (x_ri ?_)
    cases H
    exact x_iret 40 dX8_set_40 .int rfl rfl (Nat.le_of_ble_eq_true rfl) (Nat.le_of_ble_eq_true rfl) ⟨rfl, rfl⟩

def f_X8_set_c19 (v0 : Nat) (v1 : Int32) (v2 : Int32) (v3 : Int64) (v5 : Int32) (s0 : Int32) (M : XM) : Option (Int32 × XM) :=
  if s0 = 0 then (f_X8_set_29 v0 v1 v2 v3 (-5 : Int32) M) else (f_X8_set_29 v0 v1 v2 v3 v5 M)
set_option maxRecDepth 20000 in
set_option maxHeartbeats 4000000 in
theorem t_X8_set_c19 (l : Launch) {v0 : Nat} {v1 : Int32} {v2 : Int32} {v3 : Int64} {v5 : Int32} {s0 : Int32} {M : XM} {q : Int32 × XM} (H : f_X8_set_c19 v0 v1 v2 v3 v5 s0 M = some q) : AW l m_X8_set 4 0 0 (x_Ri q) 0 0 22 [some (.ref v0), some (.int v1), some (.int v2), some (.long v3), none, some (.int v5)] [(.int s0)] M := by
  unfold f_X8_set_c19 at H
  refine x_if_ne 22 29 dX8_set_22 (by decide) (fun c12 => ?_) (fun c12 => ?_)
  · replace H := x_ifn c12 H
    exact t_X8_set_29 l H
  · replace H := x_ifp c12 H
    refine x_bipush 25 (-5 : Int32) dX8_set_25 (by decide) ?_
    refine x_istore 27 5 [some (.ref v0), some (.int v1), some (.int v2), some (.long v3), none, some (.int (-5 : Int32))] dX8_set_27 rfl (Nat.le_of_ble_eq_true rfl) rfl ?_
    exact t_X8_set_29 l H

def f_X8_set_c2 (v0 : Nat) (v1 : Int32) (v2 : Int32) (v3 : Int64) (s0 : Int32) (M : XM) : Option (Int32 × XM) :=
  if s0 = 0 then (if x_tag M v0 = 8 + 10 then (if x_at M (x_r M v0 5) 4 v1 = true then (if x_tag M (x_r M (x_r M v0 5) v1.toNatClampNeg) = 6 + 10 then (x_bd (f_X6_hasElement (x_r M (x_r M v0 5) v1.toNatClampNeg) v2 M) (f_X8_set_c19 v0 v1 v2 v3 s0)) else none) else none) else none) else (f_X8_set_29 v0 v1 v2 v3 s0 M)
set_option maxRecDepth 20000 in
set_option maxHeartbeats 4000000 in
theorem t_X8_set_c2 (l : Launch) {v0 : Nat} {v1 : Int32} {v2 : Int32} {v3 : Int64} {s0 : Int32} {M : XM} {q : Int32 × XM} (H : f_X8_set_c2 v0 v1 v2 v3 s0 M = some q) : AW l m_X8_set 4 0 0 (x_Ri q) 0 0 5 [some (.ref v0), some (.int v1), some (.int v2), some (.long v3), none, none] [(.int s0)] M := by
  unfold f_X8_set_c2 at H
  refine x_istore 5 5 [some (.ref v0), some (.int v1), some (.int v2), some (.long v3), none, some (.int s0)] dX8_set_5 rfl (Nat.le_of_ble_eq_true rfl) rfl ?_
  refine x_iload 7 5 dX8_set_7 rfl ?_
  refine x_if_ne 9 29 dX8_set_9 (by decide) (fun c5 => ?_) (fun c5 => ?_)
  · replace H := x_ifn c5 H
    exact t_X8_set_29 l H
  · replace H := x_ifp c5 H
    refine x_aload_n 12 0 dX8_set_12 rfl rfl ?_
    obtain ⟨h6, H⟩ := x_ckp H
    refine x_getf 13 32 8 5 (.ref (x_r M v0 5)) dX8_set_13 lk_365 (by decide) (by decide) rfl (fun _ => rfl) h6 ?_
    refine x_iload_n 16 1 dX8_set_16 rfl rfl ?_
    obtain ⟨h7, H⟩ := x_ckp H
    refine x_aald4 17 dX8_set_17 h7 ?_
    refine x_iload_n 18 2 dX8_set_18 rfl rfl ?_
    obtain ⟨h8, H⟩ := x_ckp H
    obtain ⟨r10, M9, e11, H⟩ := x_bd_of H
    refine x_callV 19 97 6 [(.int v2)] [] dX8_set_19 (ct_X6_hasElement l e11) lk_441 lk_442 lk_443 (by decide) h8 lk_93 lk_444 ⟨cn_X6_hasElement, (by decide), by decide⟩ rfl (Nat.le_of_ble_eq_true rfl) (Nat.le_of_ble_eq_true rfl) (Nat.le_of_ble_eq_true rfl) (x_ri ?_)
    exact t_X8_set_c19 l H

def f_X8_set (v0 : Nat) (v1 : Int32) (v2 : Int32) (v3 : Int64) (M : XM) : Option (Int32 × XM) :=
  if x_tag M v0 = 8 + 10 then (x_bd (f_X8_rowRefusal v0 v1 M) (f_X8_set_c2 v0 v1 v2 v3)) else none
set_option maxRecDepth 20000 in
set_option maxHeartbeats 4000000 in
theorem t_X8_set (l : Launch) {v0 : Nat} {v1 : Int32} {v2 : Int32} {v3 : Int64} {M : XM} {q : Int32 × XM} (H : f_X8_set v0 v1 v2 v3 M = some q) : AW l m_X8_set 4 0 0 (x_Ri q) 0 0 0 [some (.ref v0), some (.int v1), some (.int v2), some (.long v3), none, none] [] M := by
  unfold f_X8_set at H
  refine x_aload_n 0 0 dX8_set_0 rfl rfl ?_
  refine x_iload_n 1 1 dX8_set_1 rfl rfl ?_
  obtain ⟨h1, H⟩ := x_ckp H
  obtain ⟨r3, M2, e4, H⟩ := x_bd_of H
  refine x_callV 2 94 8 [(.int v1)] [] dX8_set_2 (ct_X8_rowRefusal l e4) lk_425 lk_427 lk_1 (by decide) h1 lk_85 lk_428 ⟨cn_X8_rowRefusal, (by decide), by decide⟩ rfl (Nat.le_of_ble_eq_true rfl) (Nat.le_of_ble_eq_true rfl) (Nat.le_of_ble_eq_true rfl) (x_ri ?_)
  exact t_X8_set_c2 l H

theorem ct_X8_set (l : Launch) {v0 : Nat} {v1 : Int32} {v2 : Int32} {v3 : Int64} {M : XM} {q : Int32 × XM} (H : f_X8_set v0 v1 v2 v3 M = some q) : Ct l m_X8_set 4 0 0 [(.ref v0), (.int v1), (.int v2), (.long v3)] M (x_Ri q) := x_met l m_X8_set 4 0 0 [(.ref v0), (.int v1), (.int v2), (.long v3)] M (x_Ri q) _ rfl rfl (Nat.le_of_ble_eq_true rfl) (t_X8_set l H)
theorem lk_345 : Cond.fieldLink RX8 108 RX6 "sort" "I" ∈ x_TB := x_tb (k := 345) (by decide +kernel) rfl
theorem lk_454 : Cond.methodLink RX8 111 yX6_hasPart ∈ x_TB := x_tb (k := 454) (by decide +kernel) rfl
theorem lk_461 : Cond.code yX6_takePart cX6_takePart 5 none ∈ x_TB := x_tb (k := 461) (by decide +kernel) rfl
theorem lk_458 : Cond.methodLink RX8 115 yX6_takePart ∈ x_TB := x_tb (k := 458) (by decide +kernel) rfl
theorem lk_460 : Cond.selects RX6 yX6_takePart yX6_takePart ∈ x_TB := x_tb (k := 460) (by decide +kernel) rfl
theorem lk_459 : Cond.instanceMethod yX6_takePart ∈ x_TB := x_tb (k := 459) (by decide +kernel) rfl
abbrev m_X8_copy : XU := (yX8_copy, cX8_copy, 7, (some .int))
theorem cn_X8_copy : m_X8_copy.1.cls ≠ "java/lang/invoke/MethodHandle" ∧ m_X8_copy.1.cls ≠ "java/lang/invoke/VarHandle" ∧ (parseMethodDescriptor m_X8_copy.1.desc).map (fun q => q.parameters.length) = some 5 := by decide +kernel
def f_X8_copy_92 (v0 : Nat) (v1 : Int32) (v2 : Int32) (v3 : Int32) (v4 : Int32) (v5 : Int32) (v6 : Int32) (M : XM) : Option (Int32 × XM) :=
  if v6 = 0 then (if x_tag M v0 = 8 + 10 then (if x_at M (x_r M v0 5) 4 v2 = true then (if x_at M (x_r M v0 5) 4 v1 = true then (if x_tag M (x_r M (x_r M v0 5) v2.toNatClampNeg) = 6 + 10 then (x_bv (f_X6_takePart (x_r M (x_r M v0 5) v2.toNatClampNeg) (x_r M (x_r M v0 5) v1.toNatClampNeg) v3 v4 v5 M) (fun M27 => some ((1 : Int32), M27))) else none) else none) else none) else none) else (if x_tag M v0 = 8 + 10 then (x_bd (f_X8_refuse v0 v6 M) (fun r32 M31 => some (r32, M31))) else none)
set_option maxRecDepth 20000 in
set_option maxHeartbeats 4000000 in
theorem t_X8_copy_92 (l : Launch) {v0 : Nat} {v1 : Int32} {v2 : Int32} {v3 : Int32} {v4 : Int32} {v5 : Int32} {v6 : Int32} {M : XM} {q : Int32 × XM} (H : f_X8_copy_92 v0 v1 v2 v3 v4 v5 v6 M = some q) : AW l m_X8_copy 3 0 0 (x_Ri q) 0 0 92 [some (.ref v0), some (.int v1), some (.int v2), some (.int v3), some (.int v4), some (.int v5), some (.int v6)] [] M := by
  unfold f_X8_copy_92 at H
  refine x_iload 92 6 dX8_copy_92 rfl ?_
  refine x_if_eq 94 104 dX8_copy_94 (by decide) (fun c22 => ?_) (fun c22 => ?_)
  · replace H := x_ifp c22 H
    refine x_aload_n 104 0 dX8_copy_104 rfl rfl ?_
    obtain ⟨h23, H⟩ := x_ckp H
    refine x_getf 105 32 8 5 (.ref (x_r M v0 5)) dX8_copy_105 lk_365 (by decide) (by decide) rfl (fun _ => rfl) h23 ?_
    refine x_iload_n 108 2 dX8_copy_108 rfl rfl ?_
    obtain ⟨h24, H⟩ := x_ckp H
    refine x_aald4 109 dX8_copy_109 h24 ?_
    refine x_aload_n 110 0 dX8_copy_110 rfl rfl ?_
    refine x_getf 111 32 8 5 (.ref (x_r M v0 5)) dX8_copy_111 lk_365 (by decide) (by decide) rfl (fun _ => rfl) h23 ?_
    refine x_iload_n 114 1 dX8_copy_114 rfl rfl ?_
    obtain ⟨h25, H⟩ := x_ckp H
    refine x_aald4 115 dX8_copy_115 h25 ?_
    refine x_iload_n 116 3 dX8_copy_116 rfl rfl ?_
    refine x_iload 117 4 dX8_copy_117 rfl ?_
    refine x_iload 119 5 dX8_copy_119 rfl ?_
    obtain ⟨h26, H⟩ := x_ckp H
    obtain ⟨M27, e29, H⟩ := x_bv_of H
    refine x_callV 121 115 6 [(.ref (x_r M (x_r M v0 5) v1.toNatClampNeg)), (.int v3), (.int v4), (.int v5)] [] dX8_copy_121 (ct_X6_takePart l e29) lk_458 lk_459 lk_460 (by decide) h26 lk_93 lk_461 ⟨cn_X6_takePart, (by decide), by decide⟩ rfl (Nat.le_of_ble_eq_true rfl) (Nat.le_of_ble_eq_true rfl) (Nat.le_of_ble_eq_true rfl) (x_rv ?_)
    refine x_iconst 124 (1 : Int32) dX8_copy_124 (by decide) ?_
    cases H
    exact x_iret 125 dX8_copy_125 .int rfl rfl (Nat.le_of_ble_eq_true rfl) (Nat.le_of_ble_eq_true rfl) ⟨rfl, rfl⟩
  · replace H := x_ifn c22 H
    refine x_aload_n 97 0 dX8_copy_97 rfl rfl ?_
    refine x_iload 98 6 dX8_copy_98 rfl ?_
    obtain ⟨h30, H⟩ := x_ckp H
    obtain ⟨r32, M31, e33, H⟩ := x_bd_of H
    refine x_callV 100 86 8 [(.int v6)] [] dX8_copy_100 (ct_X8_refuse l e33) lk_410 lk_412 lk_0 (by decide) h30 lk_85 lk_413 ⟨cn_X8_refuse, (by decide), by decide⟩ rfl (Nat.le_of_ble_eq_true rfl) (Nat.le_of_ble_eq_true rfl) (Nat.le_of_ble_eq_true rfl) (x_ri ?_)
    cases H
    exact x_iret 103 dX8_copy_103 .int rfl rfl (Nat.le_of_ble_eq_true rfl) (Nat.le_of_ble_eq_true rfl) ⟨rfl, rfl⟩

def f_X8_copy_88 (v0 : Nat) (v1 : Int32) (v2 : Int32) (v3 : Int32) (v4 : Int32) (v5 : Int32) (M : XM) : Option (Int32 × XM) :=
  f_X8_copy_92 v0 v1 v2 v3 v4 v5 (-5 : Int32) M
set_option maxRecDepth 20000 in
set_option maxHeartbeats 4000000 in
theorem t_X8_copy_88 (l : Launch) {v0 : Nat} {v1 : Int32} {v2 : Int32} {v3 : Int32} {v4 : Int32} {v5 : Int32} {M : XM} {q : Int32 × XM} (H : f_X8_copy_88 v0 v1 v2 v3 v4 v5 M = some q) : AW l m_X8_copy 3 0 0 (x_Ri q) 0 0 88 [some (.ref v0), some (.int v1), some (.int v2), some (.int v3), some (.int v4), some (.int v5), none] [] M := by
  unfold f_X8_copy_88 at H
  refine x_bipush 88 (-5 : Int32) dX8_copy_88 (by decide) ?_
  refine x_istore 90 6 [some (.ref v0), some (.int v1), some (.int v2), some (.int v3), some (.int v4), some (.int v5), some (.int (-5 : Int32))] dX8_copy_90 rfl (Nat.le_of_ble_eq_true rfl) rfl ?_
  exact t_X8_copy_92 l H

def f_X8_copy_c82 (v0 : Nat) (v1 : Int32) (v2 : Int32) (v3 : Int32) (v4 : Int32) (v5 : Int32) (v6 : Int32) (s0 : Int32) (M : XM) : Option (Int32 × XM) :=
  if s0 = 0 then (f_X8_copy_88 v0 v1 v2 v3 v4 v5 M) else (f_X8_copy_92 v0 v1 v2 v3 v4 v5 v6 M)
set_option maxRecDepth 20000 in
set_option maxHeartbeats 4000000 in
theorem t_X8_copy_c82 (l : Launch) {v0 : Nat} {v1 : Int32} {v2 : Int32} {v3 : Int32} {v4 : Int32} {v5 : Int32} {v6 : Int32} {s0 : Int32} {M : XM} {q : Int32 × XM} (H : f_X8_copy_c82 v0 v1 v2 v3 v4 v5 v6 s0 M = some q) : AW l m_X8_copy 3 0 0 (x_Ri q) 0 0 85 [some (.ref v0), some (.int v1), some (.int v2), some (.int v3), some (.int v4), some (.int v5), some (.int v6)] [(.int s0)] M := by
  unfold f_X8_copy_c82 at H
  refine x_if_ne 85 92 dX8_copy_85 (by decide) (fun c40 => ?_) (fun c40 => ?_)
  · replace H := x_ifn c40 H
    exact t_X8_copy_92 l H
  · replace H := x_ifp c40 H
    exact x_wk (le_s (le_s (le_s (le_s (le_s (le_s (le_n le_0))))))) (t_X8_copy_88 l H)

def f_X8_copy_c66 (v0 : Nat) (v1 : Int32) (v2 : Int32) (v3 : Int32) (v4 : Int32) (v5 : Int32) (v6 : Int32) (s0 : Int32) (M : XM) : Option (Int32 × XM) :=
  if s0 = 0 then (f_X8_copy_88 v0 v1 v2 v3 v4 v5 M) else (if x_tag M v0 = 8 + 10 then (if x_at M (x_r M v0 5) 4 v2 = true then (if x_tag M (x_r M (x_r M v0 5) v2.toNatClampNeg) = 6 + 10 then (x_bd (f_X6_hasPart (x_r M (x_r M v0 5) v2.toNatClampNeg) v4 v5 M) (f_X8_copy_c82 v0 v1 v2 v3 v4 v5 v6)) else none) else none) else none)
set_option maxRecDepth 20000 in
set_option maxHeartbeats 4000000 in
theorem t_X8_copy_c66 (l : Launch) {v0 : Nat} {v1 : Int32} {v2 : Int32} {v3 : Int32} {v4 : Int32} {v5 : Int32} {v6 : Int32} {s0 : Int32} {M : XM} {q : Int32 × XM} (H : f_X8_copy_c66 v0 v1 v2 v3 v4 v5 v6 s0 M = some q) : AW l m_X8_copy 3 0 0 (x_Ri q) 0 0 69 [some (.ref v0), some (.int v1), some (.int v2), some (.int v3), some (.int v4), some (.int v5), some (.int v6)] [(.int s0)] M := by
  unfold f_X8_copy_c66 at H
  refine x_if_eq 69 88 dX8_copy_69 (by decide) (fun c21 => ?_) (fun c21 => ?_)
  · replace H := x_ifp c21 H
    exact x_wk (le_s (le_s (le_s (le_s (le_s (le_s (le_n le_0))))))) (t_X8_copy_88 l H)
  · replace H := x_ifn c21 H
    refine x_aload_n 72 0 dX8_copy_72 rfl rfl ?_
    obtain ⟨h34, H⟩ := x_ckp H
    refine x_getf 73 32 8 5 (.ref (x_r M v0 5)) dX8_copy_73 lk_365 (by decide) (by decide) rfl (fun _ => rfl) h34 ?_
    refine x_iload_n 76 2 dX8_copy_76 rfl rfl ?_
    obtain ⟨h35, H⟩ := x_ckp H
    refine x_aald4 77 dX8_copy_77 h35 ?_
    refine x_iload 78 4 dX8_copy_78 rfl ?_
    refine x_iload 80 5 dX8_copy_80 rfl ?_
    obtain ⟨h36, H⟩ := x_ckp H
    obtain ⟨r38, M37, e39, H⟩ := x_bd_of H
    refine x_callV 82 111 6 [(.int v4), (.int v5)] [] dX8_copy_82 (ct_X6_hasPart l e39) lk_454 lk_455 lk_456 (by decide) h36 lk_93 lk_457 ⟨cn_X6_hasPart, (by decide), by decide⟩ rfl (Nat.le_of_ble_eq_true rfl) (Nat.le_of_ble_eq_true rfl) (Nat.le_of_ble_eq_true rfl) (x_ri ?_)
    exact t_X8_copy_c82 l H

def f_X8_copy_52 (v0 : Nat) (v1 : Int32) (v2 : Int32) (v3 : Int32) (v4 : Int32) (v5 : Int32) (v6 : Int32) (M : XM) : Option (Int32 × XM) :=
  if v6 = 0 then (if x_tag M v0 = 8 + 10 then (if x_at M (x_r M v0 5) 4 v1 = true then (if x_tag M (x_r M (x_r M v0 5) v1.toNatClampNeg) = 6 + 10 then (x_bd (f_X6_hasPart (x_r M (x_r M v0 5) v1.toNatClampNeg) v3 v5 M) (f_X8_copy_c66 v0 v1 v2 v3 v4 v5 v6)) else none) else none) else none) else (f_X8_copy_92 v0 v1 v2 v3 v4 v5 v6 M)
set_option maxRecDepth 20000 in
set_option maxHeartbeats 4000000 in
theorem t_X8_copy_52 (l : Launch) {v0 : Nat} {v1 : Int32} {v2 : Int32} {v3 : Int32} {v4 : Int32} {v5 : Int32} {v6 : Int32} {M : XM} {q : Int32 × XM} (H : f_X8_copy_52 v0 v1 v2 v3 v4 v5 v6 M = some q) : AW l m_X8_copy 3 0 0 (x_Ri q) 0 0 52 [some (.ref v0), some (.int v1), some (.int v2), some (.int v3), some (.int v4), some (.int v5), some (.int v6)] [] M := by
  unfold f_X8_copy_52 at H
  refine x_iload 52 6 dX8_copy_52 rfl ?_
  refine x_if_ne 54 92 dX8_copy_54 (by decide) (fun c14 => ?_) (fun c14 => ?_)
  · replace H := x_ifn c14 H
    exact t_X8_copy_92 l H
  · replace H := x_ifp c14 H
    refine x_aload_n 57 0 dX8_copy_57 rfl rfl ?_
    obtain ⟨h15, H⟩ := x_ckp H
    refine x_getf 58 32 8 5 (.ref (x_r M v0 5)) dX8_copy_58 lk_365 (by decide) (by decide) rfl (fun _ => rfl) h15 ?_
    refine x_iload_n 61 1 dX8_copy_61 rfl rfl ?_
    obtain ⟨h16, H⟩ := x_ckp H
    refine x_aald4 62 dX8_copy_62 h16 ?_
    refine x_iload_n 63 3 dX8_copy_63 rfl rfl ?_
    refine x_iload 64 5 dX8_copy_64 rfl ?_
    obtain ⟨h17, H⟩ := x_ckp H
    obtain ⟨r19, M18, e20, H⟩ := x_bd_of H
    refine x_callV 66 111 6 [(.int v3), (.int v5)] [] dX8_copy_66 (ct_X6_hasPart l e20) lk_454 lk_455 lk_456 (by decide) h17 lk_93 lk_457 ⟨cn_X6_hasPart, (by decide), by decide⟩ rfl (Nat.le_of_ble_eq_true rfl) (Nat.le_of_ble_eq_true rfl) (Nat.le_of_ble_eq_true rfl) (x_ri ?_)
    exact t_X8_copy_c66 l H

def f_X8_copy_38 (v0 : Nat) (v1 : Int32) (v2 : Int32) (v3 : Int32) (v4 : Int32) (v5 : Int32) (v6 : Int32) (M : XM) : Option (Int32 × XM) :=
  if v6 = 0 then (if (0 : Int32) ≤ v5 then (f_X8_copy_52 v0 v1 v2 v3 v4 v5 v6 M) else (f_X8_copy_52 v0 v1 v2 v3 v4 v5 (-4 : Int32) M)) else (f_X8_copy_52 v0 v1 v2 v3 v4 v5 v6 M)
set_option maxRecDepth 20000 in
set_option maxHeartbeats 4000000 in
theorem t_X8_copy_38 (l : Launch) {v0 : Nat} {v1 : Int32} {v2 : Int32} {v3 : Int32} {v4 : Int32} {v5 : Int32} {v6 : Int32} {M : XM} {q : Int32 × XM} (H : f_X8_copy_38 v0 v1 v2 v3 v4 v5 v6 M = some q) : AW l m_X8_copy 3 0 0 (x_Ri q) 0 0 38 [some (.ref v0), some (.int v1), some (.int v2), some (.int v3), some (.int v4), some (.int v5), some (.int v6)] [] M := by
  unfold f_X8_copy_38 at H
  refine x_iload 38 6 dX8_copy_38 rfl ?_
  refine x_if_ne 40 52 dX8_copy_40 (by decide) (fun c12 => ?_) (fun c12 => ?_)
  · replace H := x_ifn c12 H
    exact t_X8_copy_52 l H
  · replace H := x_ifp c12 H
    refine x_iload 43 5 dX8_copy_43 rfl ?_
    refine x_if_ge 45 52 dX8_copy_45 (by decide) (fun c13 => ?_) (fun c13 => ?_)
    · replace H := x_ifp c13 H
      exact t_X8_copy_52 l H
    · replace H := x_ifn c13 H
      refine x_bipush 48 (-4 : Int32) dX8_copy_48 (by decide) ?_
      refine x_istore 50 6 [some (.ref v0), some (.int v1), some (.int v2), some (.int v3), some (.int v4), some (.int v5), some (.int (-4 : Int32))] dX8_copy_50 rfl (Nat.le_of_ble_eq_true rfl) rfl ?_
      exact t_X8_copy_52 l H

def f_X8_copy_c3 (v0 : Nat) (v1 : Int32) (v2 : Int32) (v3 : Int32) (v4 : Int32) (v5 : Int32) (s0 : Int32) (M : XM) : Option (Int32 × XM) :=
  if s0 = 0 then (if x_tag M v0 = 8 + 10 then (if x_at M (x_r M v0 5) 4 v1 = true then (if x_tag M (x_r M (x_r M v0 5) v1.toNatClampNeg) = 6 + 10 then (if x_at M (x_r M v0 5) 4 v2 = true then (if x_tag M (x_r M (x_r M v0 5) v2.toNatClampNeg) = 6 + 10 then (if (x_i M (x_r M (x_r M v0 5) v1.toNatClampNeg) 1) = (x_i M (x_r M (x_r M v0 5) v2.toNatClampNeg) 1) then (f_X8_copy_38 v0 v1 v2 v3 v4 v5 s0 M) else (f_X8_copy_38 v0 v1 v2 v3 v4 v5 (-2 : Int32) M)) else none) else none) else none) else none) else none) else (f_X8_copy_38 v0 v1 v2 v3 v4 v5 s0 M)
set_option maxRecDepth 20000 in
set_option maxHeartbeats 4000000 in
theorem t_X8_copy_c3 (l : Launch) {v0 : Nat} {v1 : Int32} {v2 : Int32} {v3 : Int32} {v4 : Int32} {v5 : Int32} {s0 : Int32} {M : XM} {q : Int32 × XM} (H : f_X8_copy_c3 v0 v1 v2 v3 v4 v5 s0 M = some q) : AW l m_X8_copy 3 0 0 (x_Ri q) 0 0 6 [some (.ref v0), some (.int v1), some (.int v2), some (.int v3), some (.int v4), some (.int v5), none] [(.int s0)] M := by
  unfold f_X8_copy_c3 at H
  refine x_istore 6 6 [some (.ref v0), some (.int v1), some (.int v2), some (.int v3), some (.int v4), some (.int v5), some (.int s0)] dX8_copy_6 rfl (Nat.le_of_ble_eq_true rfl) rfl ?_
  refine x_iload 8 6 dX8_copy_8 rfl ?_
  refine x_if_ne 10 38 dX8_copy_10 (by decide) (fun c5 => ?_) (fun c5 => ?_)
  · replace H := x_ifn c5 H
    exact t_X8_copy_38 l H
  · replace H := x_ifp c5 H
    refine x_aload_n 13 0 dX8_copy_13 rfl rfl ?_
    obtain ⟨h6, H⟩ := x_ckp H
    refine x_getf 14 32 8 5 (.ref (x_r M v0 5)) dX8_copy_14 lk_365 (by decide) (by decide) rfl (fun _ => rfl) h6 ?_
    refine x_iload_n 17 1 dX8_copy_17 rfl rfl ?_
    obtain ⟨h7, H⟩ := x_ckp H
    refine x_aald4 18 dX8_copy_18 h7 ?_
    obtain ⟨h8, H⟩ := x_ckp H
    refine x_getf 19 108 6 1 (.int (x_i M (x_r M (x_r M v0 5) v1.toNatClampNeg) 1)) dX8_copy_19 lk_345 (by decide) (by decide) rfl (fun _ => rfl) h8 ?_
    refine x_aload_n 22 0 dX8_copy_22 rfl rfl ?_
    refine x_getf 23 32 8 5 (.ref (x_r M v0 5)) dX8_copy_23 lk_365 (by decide) (by decide) rfl (fun _ => rfl) h6 ?_
    refine x_iload_n 26 2 dX8_copy_26 rfl rfl ?_
    obtain ⟨h9, H⟩ := x_ckp H
    refine x_aald4 27 dX8_copy_27 h9 ?_
    obtain ⟨h10, H⟩ := x_ckp H
    refine x_getf 28 108 6 1 (.int (x_i M (x_r M (x_r M v0 5) v2.toNatClampNeg) 1)) dX8_copy_28 lk_345 (by decide) (by decide) rfl (fun _ => rfl) h10 ?_
    refine x_icmp_eq 31 38 dX8_copy_31 (by decide) (fun c11 => ?_) (fun c11 => ?_)
    · replace H := x_ifp c11 H
      exact t_X8_copy_38 l H
    · replace H := x_ifn c11 H
      refine x_bipush 34 (-2 : Int32) dX8_copy_34 (by decide) ?_
      refine x_istore 36 6 [some (.ref v0), some (.int v1), some (.int v2), some (.int v3), some (.int v4), some (.int v5), some (.int (-2 : Int32))] dX8_copy_36 rfl (Nat.le_of_ble_eq_true rfl) rfl ?_
      exact t_X8_copy_38 l H

def f_X8_copy (v0 : Nat) (v1 : Int32) (v2 : Int32) (v3 : Int32) (v4 : Int32) (v5 : Int32) (M : XM) : Option (Int32 × XM) :=
  if x_tag M v0 = 8 + 10 then (x_bd (f_X8_rowsRefusal v0 v1 v2 M) (f_X8_copy_c3 v0 v1 v2 v3 v4 v5)) else none
set_option maxRecDepth 20000 in
set_option maxHeartbeats 4000000 in
theorem t_X8_copy (l : Launch) {v0 : Nat} {v1 : Int32} {v2 : Int32} {v3 : Int32} {v4 : Int32} {v5 : Int32} {M : XM} {q : Int32 × XM} (H : f_X8_copy v0 v1 v2 v3 v4 v5 M = some q) : AW l m_X8_copy 3 0 0 (x_Ri q) 0 0 0 [some (.ref v0), some (.int v1), some (.int v2), some (.int v3), some (.int v4), some (.int v5), none] [] M := by
  unfold f_X8_copy at H
  refine x_aload_n 0 0 dX8_copy_0 rfl rfl ?_
  refine x_iload_n 1 1 dX8_copy_1 rfl rfl ?_
  refine x_iload_n 2 2 dX8_copy_2 rfl rfl ?_
  obtain ⟨h1, H⟩ := x_ckp H
  obtain ⟨r3, M2, e4, H⟩ := x_bd_of H
  refine x_callV 3 104 8 [(.int v1), (.int v2)] [] dX8_copy_3 (ct_X8_rowsRefusal l e4) lk_429 lk_431 lk_2 (by decide) h1 lk_85 lk_432 ⟨cn_X8_rowsRefusal, (by decide), by decide⟩ rfl (Nat.le_of_ble_eq_true rfl) (Nat.le_of_ble_eq_true rfl) (Nat.le_of_ble_eq_true rfl) (x_ri ?_)
  exact t_X8_copy_c3 l H

theorem ct_X8_copy (l : Launch) {v0 : Nat} {v1 : Int32} {v2 : Int32} {v3 : Int32} {v4 : Int32} {v5 : Int32} {M : XM} {q : Int32 × XM} (H : f_X8_copy v0 v1 v2 v3 v4 v5 M = some q) : Ct l m_X8_copy 3 0 0 [(.ref v0), (.int v1), (.int v2), (.int v3), (.int v4), (.int v5)] M (x_Ri q) := x_met l m_X8_copy 3 0 0 [(.ref v0), (.int v1), (.int v2), (.int v3), (.int v4), (.int v5)] M (x_Ri q) _ rfl rfl (Nat.le_of_ble_eq_true rfl) (t_X8_copy l H)
theorem lk_470 : Cond.methodLink RX8 119 yX6_elementAt ∈ x_TB := x_tb (k := 470) (by decide +kernel) rfl
abbrev m_X8_element : XU := (yX8_element, cX8_element, 3, (some .long))
theorem cn_X8_element : m_X8_element.1.cls ≠ "java/lang/invoke/MethodHandle" ∧ m_X8_element.1.cls ≠ "java/lang/invoke/VarHandle" ∧ (parseMethodDescriptor m_X8_element.1.desc).map (fun q => q.parameters.length) = some 2 := by decide +kernel
def f_X8_element_c1 (v0 : Nat) (v1 : Int32) (v2 : Int32) (s0 : Int32) (M : XM) : Option (Int64 × XM) :=
  if s0 = 0 then (some ((0 : Int64), M)) else (if x_tag M v0 = 8 + 10 then (if x_at M (x_r M v0 5) 4 v1 = true then (if x_tag M (x_r M (x_r M v0 5) v1.toNatClampNeg) = 6 + 10 then (x_bd (f_X6_elementAt (x_r M (x_r M v0 5) v1.toNatClampNeg) v2 M) (fun r9 M8 => some (r9, M8))) else none) else none) else none)
set_option maxRecDepth 20000 in
set_option maxHeartbeats 4000000 in
theorem t_X8_element_c1 (l : Launch) {v0 : Nat} {v1 : Int32} {v2 : Int32} {s0 : Int32} {M : XM} {q : Int64 × XM} (H : f_X8_element_c1 v0 v1 v2 s0 M = some q) : AW l m_X8_element 3 0 0 (x_Rl q) 0 0 4 [some (.ref v0), some (.int v1), some (.int v2)] [(.int s0)] M := by
  unfold f_X8_element_c1 at H
  refine x_if_eq 4 20 dX8_element_4 (by decide) (fun c4 => ?_) (fun c4 => ?_)
  · replace H := x_ifp c4 H
    refine x_lconst 20 (0 : Int64) dX8_element_20 (by decide) ?_
    cases H
    exact x_lret 21 dX8_element_21 rfl (Nat.le_of_ble_eq_true rfl) (Nat.le_of_ble_eq_true rfl) ⟨rfl, rfl⟩
  · replace H := x_ifn c4 H
    refine x_aload_n 7 0 dX8_element_7 rfl rfl ?_
    obtain ⟨h5, H⟩ := x_ckp H
    refine x_getf 8 32 8 5 (.ref (x_r M v0 5)) dX8_element_8 lk_365 (by decide) (by decide) rfl (fun _ => rfl) h5 ?_
    refine x_iload_n 11 1 dX8_element_11 rfl rfl ?_
    obtain ⟨h6, H⟩ := x_ckp H
    refine x_aald4 12 dX8_element_12 h6 ?_
    refine x_iload_n 13 2 dX8_element_13 rfl rfl ?_
    obtain ⟨h7, H⟩ := x_ckp H
    obtain ⟨r9, M8, e10, H⟩ := x_bd_of H
    refine x_callV 14 119 6 [(.int v2)] [] dX8_element_14 (ct_X6_elementAt l e10) lk_470 lk_471 lk_472 (by decide) h7 lk_93 lk_473 ⟨cn_X6_elementAt, (by decide), by decide⟩ rfl (Nat.le_of_ble_eq_true rfl) (Nat.le_of_ble_eq_true rfl) (Nat.le_of_ble_eq_true rfl) (x_rl ?_)
    refine x_goto 17 21 dX8_element_17 (by decide) ?_
    cases H
    exact x_lret 21 dX8_element_21 rfl (Nat.le_of_ble_eq_true rfl) (Nat.le_of_ble_eq_true rfl) ⟨rfl, rfl⟩

def f_X8_element (v0 : Nat) (v1 : Int32) (v2 : Int32) (M : XM) : Option (Int64 × XM) :=
  x_bd (f_X8_isShelf v1 M) (f_X8_element_c1 v0 v1 v2)
set_option maxRecDepth 20000 in
set_option maxHeartbeats 4000000 in
theorem t_X8_element (l : Launch) {v0 : Nat} {v1 : Int32} {v2 : Int32} {M : XM} {q : Int64 × XM} (H : f_X8_element v0 v1 v2 M = some q) : AW l m_X8_element 3 0 0 (x_Rl q) 0 0 0 [some (.ref v0), some (.int v1), some (.int v2)] [] M := by
  unfold f_X8_element at H
  refine x_iload_n 0 1 dX8_element_0 rfl rfl ?_
  obtain ⟨r2, M1, e3, H⟩ := x_bd_of H
  refine x_callS 1 82 [(.int v1)] [] dX8_element_1 (ct_X8_isShelf l e3) lk_407 lk_408 lk_85 lk_409 ⟨cn_X8_isShelf, (by decide), by decide⟩ rfl (Nat.le_of_ble_eq_true rfl) (Nat.le_of_ble_eq_true rfl) (Nat.le_of_ble_eq_true rfl) (x_ri ?_)
  exact t_X8_element_c1 l H

theorem ct_X8_element (l : Launch) {v0 : Nat} {v1 : Int32} {v2 : Int32} {M : XM} {q : Int64 × XM} (H : f_X8_element v0 v1 v2 M = some q) : Ct l m_X8_element 3 0 0 [(.ref v0), (.int v1), (.int v2)] M (x_Rl q) := x_met l m_X8_element 3 0 0 [(.ref v0), (.int v1), (.int v2)] M (x_Rl q) _ rfl rfl (Nat.le_of_ble_eq_true rfl) (t_X8_element l H)
theorem lk_485 : Cond.code yX6_holdCounter cX6_holdCounter 2 none ∈ x_TB := x_tb (k := 485) (by decide +kernel) rfl
theorem lk_482 : Cond.methodLink RX8 126 yX6_holdCounter ∈ x_TB := x_tb (k := 482) (by decide +kernel) rfl
theorem lk_484 : Cond.selects RX6 yX6_holdCounter yX6_holdCounter ∈ x_TB := x_tb (k := 484) (by decide +kernel) rfl
theorem lk_483 : Cond.instanceMethod yX6_holdCounter ∈ x_TB := x_tb (k := 483) (by decide +kernel) rfl
theorem lk_161 : Cond.fieldLink RX8 273 RX4 "count" "I" ∈ x_TB := x_tb (k := 161) (by decide +kernel) rfl
abbrev m_X8_isCounter : XU := (yX8_isCounter, cX8_isCounter, 2, (some .boolean))
theorem cn_X8_isCounter : m_X8_isCounter.1.cls ≠ "java/lang/invoke/MethodHandle" ∧ m_X8_isCounter.1.cls ≠ "java/lang/invoke/VarHandle" ∧ (parseMethodDescriptor m_X8_isCounter.1.desc).map (fun q => q.parameters.length) = some 1 := by decide +kernel
def f_X8_isCounter (v0 : Nat) (v1 : Int32) (M : XM) : Option (Int32 × XM) :=
  if v1 < 0 then (some ((0 : Int32), M)) else (if x_tag M v0 = 8 + 10 then (if x_tag M (x_r M v0 0) = 4 + 10 then (if (x_i M (x_r M v0 0) 1) ≤ v1 then (some ((0 : Int32), M)) else (some ((1 : Int32), M))) else none) else none)
set_option maxRecDepth 20000 in
set_option maxHeartbeats 4000000 in
theorem t_X8_isCounter (l : Launch) {v0 : Nat} {v1 : Int32} {M : XM} {q : Int32 × XM} (H : f_X8_isCounter v0 v1 M = some q) : AW l m_X8_isCounter 1 0 0 (x_Ri q) 0 0 0 [some (.ref v0), some (.int v1)] [] M := by
  unfold f_X8_isCounter at H
  refine x_iload_n 0 1 dX8_isCounter_0 rfl rfl ?_
  refine x_if_lt 1 19 dX8_isCounter_1 (by decide) (fun c1 => ?_) (fun c1 => ?_)
  · replace H := x_ifp c1 H
    refine x_iconst 19 (0 : Int32) dX8_isCounter_19 (by decide) ?_
    cases H
    exact x_iret 20 dX8_isCounter_20 .boolean rfl rfl (Nat.le_of_ble_eq_true rfl) (Nat.le_of_ble_eq_true rfl) ⟨rfl, rfl⟩
  · replace H := x_ifn c1 H
    refine x_iload_n 4 1 dX8_isCounter_4 rfl rfl ?_
    refine x_aload_n 5 0 dX8_isCounter_5 rfl rfl ?_
    obtain ⟨h2, H⟩ := x_ckp H
    refine x_getf 6 10 8 0 (.ref (x_r M v0 0)) dX8_isCounter_6 lk_360 (by decide) (by decide) rfl (fun _ => rfl) h2 ?_
    obtain ⟨h3, H⟩ := x_ckp H
    refine x_getf 9 273 4 1 (.int (x_i M (x_r M v0 0) 1)) dX8_isCounter_9 lk_161 (by decide) (by decide) rfl (fun _ => rfl) h3 ?_
    refine x_icmp_ge 12 19 dX8_isCounter_12 (by decide) (fun c4 => ?_) (fun c4 => ?_)
    · replace H := x_ifp c4 H
      refine x_iconst 19 (0 : Int32) dX8_isCounter_19 (by decide) ?_
      cases H
      exact x_iret 20 dX8_isCounter_20 .boolean rfl rfl (Nat.le_of_ble_eq_true rfl) (Nat.le_of_ble_eq_true rfl) ⟨rfl, rfl⟩
    · replace H := x_ifn c4 H
      refine x_iconst 15 (1 : Int32) dX8_isCounter_15 (by decide) ?_
      refine x_goto 16 20 dX8_isCounter_16 (by decide) ?_
      cases H
      exact x_iret 20 dX8_isCounter_20 .boolean rfl rfl (Nat.le_of_ble_eq_true rfl) (Nat.le_of_ble_eq_true rfl) ⟨rfl, rfl⟩

theorem ct_X8_isCounter (l : Launch) {v0 : Nat} {v1 : Int32} {M : XM} {q : Int32 × XM} (H : f_X8_isCounter v0 v1 M = some q) : Ct l m_X8_isCounter 1 0 0 [(.ref v0), (.int v1)] M (x_Ri q) := x_met l m_X8_isCounter 1 0 0 [(.ref v0), (.int v1)] M (x_Ri q) _ rfl rfl (Nat.le_of_ble_eq_true rfl) (t_X8_isCounter l H)
theorem lk_481 : Cond.code yX8_isCounter cX8_isCounter 2 (some .boolean) ∈ x_TB := x_tb (k := 481) (by decide +kernel) rfl
theorem lk_478 : Cond.methodLink RX8 123 yX8_isCounter ∈ x_TB := x_tb (k := 478) (by decide +kernel) rfl
theorem lk_3 : Cond.selects RX8 yX8_isCounter yX8_isCounter ∈ x_TB := x_tb (k := 3) (by decide +kernel) rfl
theorem lk_480 : Cond.instanceMethod yX8_isCounter ∈ x_TB := x_tb (k := 480) (by decide +kernel) rfl
abbrev m_X8_show : XU := (yX8_show, cX8_show, 3, (some .int))
theorem cn_X8_show : m_X8_show.1.cls ≠ "java/lang/invoke/MethodHandle" ∧ m_X8_show.1.cls ≠ "java/lang/invoke/VarHandle" ∧ (parseMethodDescriptor m_X8_show.1.desc).map (fun q => q.parameters.length) = some 2 := by decide +kernel
def f_X8_show_20 (v0 : Nat) (M : XM) : Option (Int32 × XM) :=
  if x_tag M v0 = 8 + 10 then (x_bd (f_X8_refuse v0 (-1 : Int32) M) (fun r7 M6 => some (r7, M6))) else none
set_option maxRecDepth 20000 in
set_option maxHeartbeats 4000000 in
theorem t_X8_show_20 (l : Launch) {v0 : Nat} {M : XM} {q : Int32 × XM} (H : f_X8_show_20 v0 M = some q) : AW l m_X8_show 2 0 0 (x_Ri q) 0 0 20 [some (.ref v0), none, none] [] M := by
  unfold f_X8_show_20 at H
  refine x_aload_n 20 0 dX8_show_20 rfl rfl ?_
  refine x_iconst 21 (-1 : Int32) dX8_show_21 (by decide) ?_
  obtain ⟨h5, H⟩ := x_ckp H
  obtain ⟨r7, M6, e8, H⟩ := x_bd_of H
  refine x_callV 22 86 8 [(.int (-1 : Int32))] [] dX8_show_22 (ct_X8_refuse l e8) lk_410 lk_412 lk_0 (by decide) h5 lk_85 lk_413 ⟨cn_X8_refuse, (by decide), by decide⟩ rfl (Nat.le_of_ble_eq_true rfl) (Nat.le_of_ble_eq_true rfl) (Nat.le_of_ble_eq_true rfl) (x_ri ?_)
  cases H
  exact x_iret 25 dX8_show_25 .int rfl rfl (Nat.le_of_ble_eq_true rfl) (Nat.le_of_ble_eq_true rfl) ⟨rfl, rfl⟩

def f_X8_show_c33 (v2 : Int32) (M : XM) : Option (Int32 × XM) :=
  if v2 = (-1 : Int32) then (some ((0 : Int32), M)) else (some ((1 : Int32), M))
set_option maxRecDepth 20000 in
set_option maxHeartbeats 4000000 in
theorem t_X8_show_c33 (l : Launch) {v2 : Int32} {M : XM} {q : Int32 × XM} (H : f_X8_show_c33 v2 M = some q) : AW l m_X8_show 2 0 0 (x_Ri q) 0 0 36 [none, none, some (.int v2)] [] M := by
  unfold f_X8_show_c33 at H
  refine x_iload_n 36 2 dX8_show_36 rfl rfl ?_
  refine x_iconst 37 (-1 : Int32) dX8_show_37 (by decide) ?_
  refine x_icmp_ne 38 45 dX8_show_38 (by decide) (fun c16 => ?_) (fun c16 => ?_)
  · replace H := x_ifn c16 H
    refine x_iconst 45 (1 : Int32) dX8_show_45 (by decide) ?_
    cases H
    exact x_iret 46 dX8_show_46 .int rfl rfl (Nat.le_of_ble_eq_true rfl) (Nat.le_of_ble_eq_true rfl) ⟨rfl, rfl⟩
  · replace H := x_ifp c16 H
    refine x_iconst 41 (0 : Int32) dX8_show_41 (by decide) ?_
    refine x_goto 42 46 dX8_show_42 (by decide) ?_
    cases H
    exact x_iret 46 dX8_show_46 .int rfl rfl (Nat.le_of_ble_eq_true rfl) (Nat.le_of_ble_eq_true rfl) ⟨rfl, rfl⟩

def f_X8_show_26 (v0 : Nat) (v1 : Int32) (v2 : Int32) (M : XM) : Option (Int32 × XM) :=
  if x_tag M v0 = 8 + 10 then (if x_at M (x_r M v0 5) 4 v1 = true then (if x_tag M (x_r M (x_r M v0 5) v1.toNatClampNeg) = 6 + 10 then (x_bv (f_X6_holdCounter (x_r M (x_r M v0 5) v1.toNatClampNeg) v2 M) (f_X8_show_c33 v2)) else none) else none) else none
set_option maxRecDepth 20000 in
set_option maxHeartbeats 4000000 in
theorem t_X8_show_26 (l : Launch) {v0 : Nat} {v1 : Int32} {v2 : Int32} {M : XM} {q : Int32 × XM} (H : f_X8_show_26 v0 v1 v2 M = some q) : AW l m_X8_show 2 0 0 (x_Ri q) 0 0 26 [some (.ref v0), some (.int v1), some (.int v2)] [] M := by
  unfold f_X8_show_26 at H
  refine x_aload_n 26 0 dX8_show_26 rfl rfl ?_
  obtain ⟨h10, H⟩ := x_ckp H
  refine x_getf 27 32 8 5 (.ref (x_r M v0 5)) dX8_show_27 lk_365 (by decide) (by decide) rfl (fun _ => rfl) h10 ?_
  refine x_iload_n 30 1 dX8_show_30 rfl rfl ?_
  obtain ⟨h11, H⟩ := x_ckp H
  refine x_aald4 31 dX8_show_31 h11 ?_
  refine x_iload_n 32 2 dX8_show_32 rfl rfl ?_
  obtain ⟨h12, H⟩ := x_ckp H
  obtain ⟨M13, e15, H⟩ := x_bv_of H
  refine x_callV 33 126 6 [(.int v2)] [] dX8_show_33 (ct_X6_holdCounter l e15) lk_482 lk_483 lk_484 (by decide) h12 lk_93 lk_485 ⟨cn_X6_holdCounter, (by decide), by decide⟩ rfl (Nat.le_of_ble_eq_true rfl) (Nat.le_of_ble_eq_true rfl) (Nat.le_of_ble_eq_true rfl) (x_rv ?_)
  exact x_wk (le_n (le_n (le_s le_0))) (t_X8_show_c33 l H)

def f_X8_show_c14 (v0 : Nat) (v1 : Int32) (v2 : Int32) (s0 : Int32) (M : XM) : Option (Int32 × XM) :=
  if s0 = 0 then (f_X8_show_20 v0 M) else (f_X8_show_26 v0 v1 v2 M)
set_option maxRecDepth 20000 in
set_option maxHeartbeats 4000000 in
theorem t_X8_show_c14 (l : Launch) {v0 : Nat} {v1 : Int32} {v2 : Int32} {s0 : Int32} {M : XM} {q : Int32 × XM} (H : f_X8_show_c14 v0 v1 v2 s0 M = some q) : AW l m_X8_show 2 0 0 (x_Ri q) 0 0 17 [some (.ref v0), some (.int v1), some (.int v2)] [(.int s0)] M := by
  unfold f_X8_show_c14 at H
  refine x_if_ne 17 26 dX8_show_17 (by decide) (fun c21 => ?_) (fun c21 => ?_)
  · replace H := x_ifn c21 H
    exact t_X8_show_26 l H
  · replace H := x_ifp c21 H
    exact x_wk (le_s (le_n (le_n le_0))) (t_X8_show_20 l H)

def f_X8_show_c1 (v0 : Nat) (v1 : Int32) (v2 : Int32) (s0 : Int32) (M : XM) : Option (Int32 × XM) :=
  if s0 = 0 then (f_X8_show_20 v0 M) else (if v2 = (-1 : Int32) then (f_X8_show_26 v0 v1 v2 M) else (if x_tag M v0 = 8 + 10 then (x_bd (f_X8_isCounter v0 v2 M) (f_X8_show_c14 v0 v1 v2)) else none))
set_option maxRecDepth 20000 in
set_option maxHeartbeats 4000000 in
theorem t_X8_show_c1 (l : Launch) {v0 : Nat} {v1 : Int32} {v2 : Int32} {s0 : Int32} {M : XM} {q : Int32 × XM} (H : f_X8_show_c1 v0 v1 v2 s0 M = some q) : AW l m_X8_show 2 0 0 (x_Ri q) 0 0 4 [some (.ref v0), some (.int v1), some (.int v2)] [(.int s0)] M := by
  unfold f_X8_show_c1 at H
  refine x_if_eq 4 20 dX8_show_4 (by decide) (fun c4 => ?_) (fun c4 => ?_)
  · replace H := x_ifp c4 H
    exact x_wk (le_s (le_n (le_n le_0))) (t_X8_show_20 l H)
  · replace H := x_ifn c4 H
    refine x_iload_n 7 2 dX8_show_7 rfl rfl ?_
    refine x_iconst 8 (-1 : Int32) dX8_show_8 (by decide) ?_
    refine x_icmp_eq 9 26 dX8_show_9 (by decide) (fun c9 => ?_) (fun c9 => ?_)
    · replace H := x_ifp c9 H
      exact t_X8_show_26 l H
    · replace H := x_ifn c9 H
      refine x_aload_n 12 0 dX8_show_12 rfl rfl ?_
      refine x_iload_n 13 2 dX8_show_13 rfl rfl ?_
      obtain ⟨h17, H⟩ := x_ckp H
      obtain ⟨r19, M18, e20, H⟩ := x_bd_of H
      refine x_callV 14 123 8 [(.int v2)] [] dX8_show_14 (ct_X8_isCounter l e20) lk_478 lk_480 lk_3 (by decide) h17 lk_85 lk_481 ⟨cn_X8_isCounter, (by decide), by decide⟩ rfl (Nat.le_of_ble_eq_true rfl) (Nat.le_of_ble_eq_true rfl) (Nat.le_of_ble_eq_true rfl) (x_ri ?_)
      exact t_X8_show_c14 l H

def f_X8_show (v0 : Nat) (v1 : Int32) (v2 : Int32) (M : XM) : Option (Int32 × XM) :=
  x_bd (f_X8_isShelf v1 M) (f_X8_show_c1 v0 v1 v2)
set_option maxRecDepth 20000 in
set_option maxHeartbeats 4000000 in
theorem t_X8_show (l : Launch) {v0 : Nat} {v1 : Int32} {v2 : Int32} {M : XM} {q : Int32 × XM} (H : f_X8_show v0 v1 v2 M = some q) : AW l m_X8_show 2 0 0 (x_Ri q) 0 0 0 [some (.ref v0), some (.int v1), some (.int v2)] [] M := by
  unfold f_X8_show at H
  refine x_iload_n 0 1 dX8_show_0 rfl rfl ?_
  obtain ⟨r2, M1, e3, H⟩ := x_bd_of H
  refine x_callS 1 82 [(.int v1)] [] dX8_show_1 (ct_X8_isShelf l e3) lk_407 lk_408 lk_85 lk_409 ⟨cn_X8_isShelf, (by decide), by decide⟩ rfl (Nat.le_of_ble_eq_true rfl) (Nat.le_of_ble_eq_true rfl) (Nat.le_of_ble_eq_true rfl) (x_ri ?_)
  exact t_X8_show_c1 l H

theorem ct_X8_show (l : Launch) {v0 : Nat} {v1 : Int32} {v2 : Int32} {M : XM} {q : Int32 × XM} (H : f_X8_show v0 v1 v2 M = some q) : Ct l m_X8_show 2 0 0 [(.ref v0), (.int v1), (.int v2)] M (x_Ri q) := x_met l m_X8_show 2 0 0 [(.ref v0), (.int v1), (.int v2)] M (x_Ri q) _ rfl rfl (Nat.le_of_ble_eq_true rfl) (t_X8_show l H)
theorem lk_493 : Cond.code yX6_content cX6_content 1 (some .int) ∈ x_TB := x_tb (k := 493) (by decide +kernel) rfl
theorem lk_490 : Cond.methodLink RX8 130 yX6_content ∈ x_TB := x_tb (k := 490) (by decide +kernel) rfl
theorem lk_492 : Cond.selects RX6 yX6_content yX6_content ∈ x_TB := x_tb (k := 492) (by decide +kernel) rfl
theorem lk_491 : Cond.instanceMethod yX6_content ∈ x_TB := x_tb (k := 491) (by decide +kernel) rfl
abbrev m_X8_holds : XU := (yX8_holds, cX8_holds, 2, (some .int))
theorem cn_X8_holds : m_X8_holds.1.cls ≠ "java/lang/invoke/MethodHandle" ∧ m_X8_holds.1.cls ≠ "java/lang/invoke/VarHandle" ∧ (parseMethodDescriptor m_X8_holds.1.desc).map (fun q => q.parameters.length) = some 1 := by decide +kernel
def f_X8_holds_c1 (v0 : Nat) (v1 : Int32) (s0 : Int32) (M : XM) : Option (Int32 × XM) :=
  if s0 = 0 then (some ((-1 : Int32), M)) else (if x_tag M v0 = 8 + 10 then (if x_at M (x_r M v0 5) 4 v1 = true then (if x_tag M (x_r M (x_r M v0 5) v1.toNatClampNeg) = 6 + 10 then (x_bd (f_X6_content (x_r M (x_r M v0 5) v1.toNatClampNeg) M) (fun r9 M8 => some (r9, M8))) else none) else none) else none)
set_option maxRecDepth 20000 in
set_option maxHeartbeats 4000000 in
theorem t_X8_holds_c1 (l : Launch) {v0 : Nat} {v1 : Int32} {s0 : Int32} {M : XM} {q : Int32 × XM} (H : f_X8_holds_c1 v0 v1 s0 M = some q) : AW l m_X8_holds 3 0 0 (x_Ri q) 0 0 4 [some (.ref v0), some (.int v1)] [(.int s0)] M := by
  unfold f_X8_holds_c1 at H
  refine x_if_eq 4 19 dX8_holds_4 (by decide) (fun c4 => ?_) (fun c4 => ?_)
  · replace H := x_ifp c4 H
    refine x_iconst 19 (-1 : Int32) dX8_holds_19 (by decide) ?_
    cases H
    exact x_iret 20 dX8_holds_20 .int rfl rfl (Nat.le_of_ble_eq_true rfl) (Nat.le_of_ble_eq_true rfl) ⟨rfl, rfl⟩
  · replace H := x_ifn c4 H
    refine x_aload_n 7 0 dX8_holds_7 rfl rfl ?_
    obtain ⟨h5, H⟩ := x_ckp H
    refine x_getf 8 32 8 5 (.ref (x_r M v0 5)) dX8_holds_8 lk_365 (by decide) (by decide) rfl (fun _ => rfl) h5 ?_
    refine x_iload_n 11 1 dX8_holds_11 rfl rfl ?_
    obtain ⟨h6, H⟩ := x_ckp H
    refine x_aald4 12 dX8_holds_12 h6 ?_
    obtain ⟨h7, H⟩ := x_ckp H
    obtain ⟨r9, M8, e10, H⟩ := x_bd_of H
    refine x_callV 13 130 6 [] [] dX8_holds_13 (ct_X6_content l e10) lk_490 lk_491 lk_492 (by decide) h7 lk_93 lk_493 ⟨cn_X6_content, (by decide), by decide⟩ rfl (Nat.le_of_ble_eq_true rfl) (Nat.le_of_ble_eq_true rfl) (Nat.le_of_ble_eq_true rfl) (x_ri ?_)
    refine x_goto 16 20 dX8_holds_16 (by decide) ?_
    cases H
    exact x_iret 20 dX8_holds_20 .int rfl rfl (Nat.le_of_ble_eq_true rfl) (Nat.le_of_ble_eq_true rfl) ⟨rfl, rfl⟩

def f_X8_holds (v0 : Nat) (v1 : Int32) (M : XM) : Option (Int32 × XM) :=
  x_bd (f_X8_isShelf v1 M) (f_X8_holds_c1 v0 v1)
set_option maxRecDepth 20000 in
set_option maxHeartbeats 4000000 in
theorem t_X8_holds (l : Launch) {v0 : Nat} {v1 : Int32} {M : XM} {q : Int32 × XM} (H : f_X8_holds v0 v1 M = some q) : AW l m_X8_holds 3 0 0 (x_Ri q) 0 0 0 [some (.ref v0), some (.int v1)] [] M := by
  unfold f_X8_holds at H
  refine x_iload_n 0 1 dX8_holds_0 rfl rfl ?_
  obtain ⟨r2, M1, e3, H⟩ := x_bd_of H
  refine x_callS 1 82 [(.int v1)] [] dX8_holds_1 (ct_X8_isShelf l e3) lk_407 lk_408 lk_85 lk_409 ⟨cn_X8_isShelf, (by decide), by decide⟩ rfl (Nat.le_of_ble_eq_true rfl) (Nat.le_of_ble_eq_true rfl) (Nat.le_of_ble_eq_true rfl) (x_ri ?_)
  exact t_X8_holds_c1 l H

theorem ct_X8_holds (l : Launch) {v0 : Nat} {v1 : Int32} {M : XM} {q : Int32 × XM} (H : f_X8_holds v0 v1 M = some q) : Ct l m_X8_holds 3 0 0 [(.ref v0), (.int v1)] M (x_Ri q) := x_met l m_X8_holds 3 0 0 [(.ref v0), (.int v1)] M (x_Ri q) _ rfl rfl (Nat.le_of_ble_eq_true rfl) (t_X8_holds l H)
theorem lk_343 : Cond.fieldLink RX8 141 RX6 "counter" "I" ∈ x_TB := x_tb (k := 343) (by decide +kernel) rfl
theorem lk_158 : Cond.fieldLink RX8 144 RX4 "counters" "[LWhatDidYouSay$Counter;" ∈ x_TB := x_tb (k := 158) (by decide +kernel) rfl
theorem lk_125 : Cond.fieldLink RX8 148 RX2 "kind" "I" ∈ x_TB := x_tb (k := 125) (by decide +kernel) rfl
theorem lk_504 : Cond.methodLink RX8 151 yX8_isUnder ∈ x_TB := x_tb (k := 504) (by decide +kernel) rfl
theorem lk_171 : Cond.fieldLink RX8 154 RX4 "apart" "I" ∈ x_TB := x_tb (k := 171) (by decide +kernel) rfl
theorem lk_513 : Cond.code yX2_saysAs cX2_saysAs 3 (some .int) ∈ x_TB := x_tb (k := 513) (by decide +kernel) rfl
theorem lk_510 : Cond.methodLink RX8 157 yX2_saysAs ∈ x_TB := x_tb (k := 510) (by decide +kernel) rfl
theorem lk_512 : Cond.selects RX2 yX2_saysAs yX2_saysAs ∈ x_TB := x_tb (k := 512) (by decide +kernel) rfl
theorem lk_511 : Cond.instanceMethod yX2_saysAs ∈ x_TB := x_tb (k := 511) (by decide +kernel) rfl
abbrev m_X8_says : XU := (yX8_says, cX8_says, 5, (some .int))
theorem cn_X8_says : m_X8_says.1.cls ≠ "java/lang/invoke/MethodHandle" ∧ m_X8_says.1.cls ≠ "java/lang/invoke/VarHandle" ∧ (parseMethodDescriptor m_X8_says.1.desc).map (fun q => q.parameters.length) = some 2 := by decide +kernel
def f_X8_says_14 (v0 : Nat) (M : XM) : Option (Int32 × XM) :=
  if x_tag M v0 = 8 + 10 then (x_bd (f_X8_refuse v0 (-1 : Int32) M) (fun r7 M6 => some (r7, M6))) else none
set_option maxRecDepth 20000 in
set_option maxHeartbeats 4000000 in
theorem t_X8_says_14 (l : Launch) {v0 : Nat} {M : XM} {q : Int32 × XM} (H : f_X8_says_14 v0 M = some q) : AW l m_X8_says 4 0 0 (x_Ri q) 0 0 14 [some (.ref v0), none, none, none, none] [] M := by
  unfold f_X8_says_14 at H
  refine x_aload_n 14 0 dX8_says_14 rfl rfl ?_
  refine x_iconst 15 (-1 : Int32) dX8_says_15 (by decide) ?_
  obtain ⟨h5, H⟩ := x_ckp H
  obtain ⟨r7, M6, e8, H⟩ := x_bd_of H
  refine x_callV 16 86 8 [(.int (-1 : Int32))] [] dX8_says_16 (ct_X8_refuse l e8) lk_410 lk_412 lk_0 (by decide) h5 lk_85 lk_413 ⟨cn_X8_refuse, (by decide), by decide⟩ rfl (Nat.le_of_ble_eq_true rfl) (Nat.le_of_ble_eq_true rfl) (Nat.le_of_ble_eq_true rfl) (x_ri ?_)
  cases H
  exact x_iret 19 dX8_says_19 .int rfl rfl (Nat.le_of_ble_eq_true rfl) (Nat.le_of_ble_eq_true rfl) ⟨rfl, rfl⟩

def f_X8_says_c81 (v0 : Nat) (v2 : Int32) (v4 : Nat) (s0 : Int32) (M : XM) : Option (Int32 × XM) :=
  if s0 = 0 then (if x_tag M v0 = 8 + 10 then (x_bd (f_X8_refuse v0 (-2 : Int32) M) (fun r41 M40 => some (r41, M40))) else none) else (if x_tag M v0 = 8 + 10 then (if x_tag M (x_r M v0 0) = 4 + 10 then (if x_tag M v4 = 2 + 10 then (x_bd (f_X2_saysAs v4 v2 (x_i M (x_r M v0 0) 3) M) (fun r47 M46 => some (r47, M46))) else none) else none) else none)
set_option maxRecDepth 20000 in
set_option maxHeartbeats 4000000 in
theorem t_X8_says_c81 (l : Launch) {v0 : Nat} {v2 : Int32} {v4 : Nat} {s0 : Int32} {M : XM} {q : Int32 × XM} (H : f_X8_says_c81 v0 v2 v4 s0 M = some q) : AW l m_X8_says 4 0 0 (x_Ri q) 0 0 84 [some (.ref v0), none, some (.int v2), none, some (.ref v4)] [(.int s0)] M := by
  unfold f_X8_says_c81 at H
  refine x_if_ne 84 94 dX8_says_84 (by decide) (fun c38 => ?_) (fun c38 => ?_)
  · replace H := x_ifn c38 H
    refine x_aload 94 4 dX8_says_94 rfl ?_
    refine x_iload_n 96 2 dX8_says_96 rfl rfl ?_
    refine x_aload_n 97 0 dX8_says_97 rfl rfl ?_
    obtain ⟨h43, H⟩ := x_ckp H
    refine x_getf 98 10 8 0 (.ref (x_r M v0 0)) dX8_says_98 lk_360 (by decide) (by decide) rfl (fun _ => rfl) h43 ?_
    obtain ⟨h44, H⟩ := x_ckp H
    refine x_getf 101 154 4 3 (.int (x_i M (x_r M v0 0) 3)) dX8_says_101 lk_171 (by decide) (by decide) rfl (fun _ => rfl) h44 ?_
    obtain ⟨h45, H⟩ := x_ckp H
    obtain ⟨r47, M46, e48, H⟩ := x_bd_of H
    refine x_callV 104 157 2 [(.int v2), (.int (x_i M (x_r M v0 0) 3))] [] dX8_says_104 (ct_X2_saysAs l e48) lk_510 lk_511 lk_512 (by decide) h45 lk_87 lk_513 ⟨cn_X2_saysAs, (by decide), by decide⟩ rfl (Nat.le_of_ble_eq_true rfl) (Nat.le_of_ble_eq_true rfl) (Nat.le_of_ble_eq_true rfl) (x_ri ?_)
    cases H
    exact x_iret 107 dX8_says_107 .int rfl rfl (Nat.le_of_ble_eq_true rfl) (Nat.le_of_ble_eq_true rfl) ⟨rfl, rfl⟩
  · replace H := x_ifp c38 H
    refine x_aload_n 87 0 dX8_says_87 rfl rfl ?_
    refine x_bipush 88 (-2 : Int32) dX8_says_88 (by decide) ?_
    obtain ⟨h39, H⟩ := x_ckp H
    obtain ⟨r41, M40, e42, H⟩ := x_bd_of H
    refine x_callV 90 86 8 [(.int (-2 : Int32))] [] dX8_says_90 (ct_X8_refuse l e42) lk_410 lk_412 lk_0 (by decide) h39 lk_85 lk_413 ⟨cn_X8_refuse, (by decide), by decide⟩ rfl (Nat.le_of_ble_eq_true rfl) (Nat.le_of_ble_eq_true rfl) (Nat.le_of_ble_eq_true rfl) (x_ri ?_)
    cases H
    exact x_iret 93 dX8_says_93 .int rfl rfl (Nat.le_of_ble_eq_true rfl) (Nat.le_of_ble_eq_true rfl) ⟨rfl, rfl⟩

def f_X8_says_c51 (v0 : Nat) (v2 : Int32) (v3 : Int32) (s0 : Int32) (M : XM) : Option (Int32 × XM) :=
  if s0 = 0 then (if x_tag M v0 = 8 + 10 then (x_bd (f_X8_refuse v0 (-3 : Int32) M) (fun r29 M28 => some (r29, M28))) else none) else (if x_tag M v0 = 8 + 10 then (if x_tag M (x_r M v0 0) = 4 + 10 then (if x_at M (x_r M (x_r M v0 0) 0) 3 v3 = true then (if x_tag M (x_r M (x_r M (x_r M v0 0) 0) v3.toNatClampNeg) = 2 + 10 then (x_bd (f_X8_isUnder (x_i M (x_r M (x_r M (x_r M v0 0) 0) v3.toNatClampNeg) 0) v2 M) (f_X8_says_c81 v0 v2 (x_r M (x_r M (x_r M v0 0) 0) v3.toNatClampNeg))) else none) else none) else none) else none)
set_option maxRecDepth 20000 in
set_option maxHeartbeats 4000000 in
theorem t_X8_says_c51 (l : Launch) {v0 : Nat} {v2 : Int32} {v3 : Int32} {s0 : Int32} {M : XM} {q : Int32 × XM} (H : f_X8_says_c51 v0 v2 v3 s0 M = some q) : AW l m_X8_says 4 0 0 (x_Ri q) 0 0 54 [some (.ref v0), none, some (.int v2), some (.int v3), none] [(.int s0)] M := by
  unfold f_X8_says_c51 at H
  refine x_if_ne 54 64 dX8_says_54 (by decide) (fun c26 => ?_) (fun c26 => ?_)
  · replace H := x_ifn c26 H
    refine x_aload_n 64 0 dX8_says_64 rfl rfl ?_
    obtain ⟨h31, H⟩ := x_ckp H
    refine x_getf 65 10 8 0 (.ref (x_r M v0 0)) dX8_says_65 lk_360 (by decide) (by decide) rfl (fun _ => rfl) h31 ?_
    obtain ⟨h32, H⟩ := x_ckp H
    refine x_getf 68 144 4 0 (.ref (x_r M (x_r M v0 0) 0)) dX8_says_68 lk_158 (by decide) (by decide) rfl (fun _ => rfl) h32 ?_
    refine x_iload_n 71 3 dX8_says_71 rfl rfl ?_
    obtain ⟨h33, H⟩ := x_ckp H
    refine x_aald3 72 dX8_says_72 h33 ?_
    refine x_astore 73 4 [some (.ref v0), none, some (.int v2), some (.int v3), some (.ref (x_r M (x_r M (x_r M v0 0) 0) v3.toNatClampNeg))] dX8_says_73 rfl (Nat.le_of_ble_eq_true rfl) rfl ?_
    refine x_aload 75 4 dX8_says_75 rfl ?_
    obtain ⟨h34, H⟩ := x_ckp H
    refine x_getf 77 148 2 0 (.int (x_i M (x_r M (x_r M (x_r M v0 0) 0) v3.toNatClampNeg) 0)) dX8_says_77 lk_125 (by decide) (by decide) rfl (fun _ => rfl) h34 ?_
    refine x_iload_n 80 2 dX8_says_80 rfl rfl ?_
    obtain ⟨r36, M35, e37, H⟩ := x_bd_of H
    refine x_callS 81 151 [(.int (x_i M (x_r M (x_r M (x_r M v0 0) 0) v3.toNatClampNeg) 0)), (.int v2)] [] dX8_says_81 (ct_X8_isUnder l e37) lk_504 lk_505 lk_85 lk_506 ⟨cn_X8_isUnder, (by decide), by decide⟩ rfl (Nat.le_of_ble_eq_true rfl) (Nat.le_of_ble_eq_true rfl) (Nat.le_of_ble_eq_true rfl) (x_ri ?_)
    exact x_wk (le_s (le_s (le_s (le_n (le_s le_0))))) (t_X8_says_c81 l H)
  · replace H := x_ifp c26 H
    refine x_aload_n 57 0 dX8_says_57 rfl rfl ?_
    refine x_bipush 58 (-3 : Int32) dX8_says_58 (by decide) ?_
    obtain ⟨h27, H⟩ := x_ckp H
    obtain ⟨r29, M28, e30, H⟩ := x_bd_of H
    refine x_callV 60 86 8 [(.int (-3 : Int32))] [] dX8_says_60 (ct_X8_refuse l e30) lk_410 lk_412 lk_0 (by decide) h27 lk_85 lk_413 ⟨cn_X8_refuse, (by decide), by decide⟩ rfl (Nat.le_of_ble_eq_true rfl) (Nat.le_of_ble_eq_true rfl) (Nat.le_of_ble_eq_true rfl) (x_ri ?_)
    cases H
    exact x_iret 63 dX8_says_63 .int rfl rfl (Nat.le_of_ble_eq_true rfl) (Nat.le_of_ble_eq_true rfl) ⟨rfl, rfl⟩

def f_X8_says_c26 (v0 : Nat) (v1 : Int32) (v2 : Int32) (s0 : Int32) (M : XM) : Option (Int32 × XM) :=
  if s0 = 0 then (if x_tag M v0 = 8 + 10 then (if x_at M (x_r M v0 5) 4 v1 = true then (if x_tag M (x_r M (x_r M v0 5) v1.toNatClampNeg) = 6 + 10 then (x_bd (f_X8_isCounter v0 (x_i M (x_r M (x_r M v0 5) v1.toNatClampNeg) 0) M) (f_X8_says_c51 v0 v2 (x_i M (x_r M (x_r M v0 5) v1.toNatClampNeg) 0))) else none) else none) else none) else (if x_tag M v0 = 8 + 10 then (x_bd (f_X8_refuse v0 (-2 : Int32) M) (fun r51 M50 => some (r51, M50))) else none)
set_option maxRecDepth 20000 in
set_option maxHeartbeats 4000000 in
theorem t_X8_says_c26 (l : Launch) {v0 : Nat} {v1 : Int32} {v2 : Int32} {s0 : Int32} {M : XM} {q : Int32 × XM} (H : f_X8_says_c26 v0 v1 v2 s0 M = some q) : AW l m_X8_says 4 0 0 (x_Ri q) 0 0 29 [some (.ref v0), some (.int v1), some (.int v2), none, none] [(.int s0)] M := by
  unfold f_X8_says_c26 at H
  refine x_if_eq 29 39 dX8_says_29 (by decide) (fun c19 => ?_) (fun c19 => ?_)
  · replace H := x_ifp c19 H
    refine x_aload_n 39 0 dX8_says_39 rfl rfl ?_
    obtain ⟨h20, H⟩ := x_ckp H
    refine x_getf 40 32 8 5 (.ref (x_r M v0 5)) dX8_says_40 lk_365 (by decide) (by decide) rfl (fun _ => rfl) h20 ?_
    refine x_iload_n 43 1 dX8_says_43 rfl rfl ?_
    obtain ⟨h21, H⟩ := x_ckp H
    refine x_aald4 44 dX8_says_44 h21 ?_
    obtain ⟨h22, H⟩ := x_ckp H
    refine x_getf 45 141 6 0 (.int (x_i M (x_r M (x_r M v0 5) v1.toNatClampNeg) 0)) dX8_says_45 lk_343 (by decide) (by decide) rfl (fun _ => rfl) h22 ?_
    refine x_istore_n 48 3 [some (.ref v0), some (.int v1), some (.int v2), some (.int (x_i M (x_r M (x_r M v0 5) v1.toNatClampNeg) 0)), none] dX8_says_48 rfl rfl (Nat.le_of_ble_eq_true rfl) rfl ?_
    refine x_aload_n 49 0 dX8_says_49 rfl rfl ?_
    refine x_iload_n 50 3 dX8_says_50 rfl rfl ?_
    obtain ⟨r24, M23, e25, H⟩ := x_bd_of H
    refine x_callV 51 123 8 [(.int (x_i M (x_r M (x_r M v0 5) v1.toNatClampNeg) 0))] [] dX8_says_51 (ct_X8_isCounter l e25) lk_478 lk_480 lk_3 (by decide) h20 lk_85 lk_481 ⟨cn_X8_isCounter, (by decide), by decide⟩ rfl (Nat.le_of_ble_eq_true rfl) (Nat.le_of_ble_eq_true rfl) (Nat.le_of_ble_eq_true rfl) (x_ri ?_)
    exact x_wk (le_s (le_n (le_s (le_s (le_s le_0))))) (t_X8_says_c51 l H)
  · replace H := x_ifn c19 H
    refine x_aload_n 32 0 dX8_says_32 rfl rfl ?_
    refine x_bipush 33 (-2 : Int32) dX8_says_33 (by decide) ?_
    obtain ⟨h49, H⟩ := x_ckp H
    obtain ⟨r51, M50, e52, H⟩ := x_bd_of H
    refine x_callV 35 86 8 [(.int (-2 : Int32))] [] dX8_says_35 (ct_X8_refuse l e52) lk_410 lk_412 lk_0 (by decide) h49 lk_85 lk_413 ⟨cn_X8_refuse, (by decide), by decide⟩ rfl (Nat.le_of_ble_eq_true rfl) (Nat.le_of_ble_eq_true rfl) (Nat.le_of_ble_eq_true rfl) (x_ri ?_)
    cases H
    exact x_iret 38 dX8_says_38 .int rfl rfl (Nat.le_of_ble_eq_true rfl) (Nat.le_of_ble_eq_true rfl) ⟨rfl, rfl⟩

def f_X8_says_c8 (v0 : Nat) (v1 : Int32) (v2 : Int32) (s0 : Int32) (M : XM) : Option (Int32 × XM) :=
  if s0 = 0 then (f_X8_says_14 v0 M) else (if x_tag M v0 = 8 + 10 then (if x_at M (x_r M v0 5) 4 v1 = true then (if x_tag M (x_r M (x_r M v0 5) v1.toNatClampNeg) = 6 + 10 then (x_bd (f_X6_hasRow (x_r M (x_r M v0 5) v1.toNatClampNeg) M) (f_X8_says_c26 v0 v1 v2)) else none) else none) else none)
set_option maxRecDepth 20000 in
set_option maxHeartbeats 4000000 in
theorem t_X8_says_c8 (l : Launch) {v0 : Nat} {v1 : Int32} {v2 : Int32} {s0 : Int32} {M : XM} {q : Int32 × XM} (H : f_X8_says_c8 v0 v1 v2 s0 M = some q) : AW l m_X8_says 4 0 0 (x_Ri q) 0 0 11 [some (.ref v0), some (.int v1), some (.int v2), none, none] [(.int s0)] M := by
  unfold f_X8_says_c8 at H
  refine x_if_ne 11 20 dX8_says_11 (by decide) (fun c12 => ?_) (fun c12 => ?_)
  · replace H := x_ifn c12 H
    refine x_aload_n 20 0 dX8_says_20 rfl rfl ?_
    obtain ⟨h13, H⟩ := x_ckp H
    refine x_getf 21 32 8 5 (.ref (x_r M v0 5)) dX8_says_21 lk_365 (by decide) (by decide) rfl (fun _ => rfl) h13 ?_
    refine x_iload_n 24 1 dX8_says_24 rfl rfl ?_
    obtain ⟨h14, H⟩ := x_ckp H
    refine x_aald4 25 dX8_says_25 h14 ?_
    obtain ⟨h15, H⟩ := x_ckp H
    obtain ⟨r17, M16, e18, H⟩ := x_bd_of H
    refine x_callV 26 137 6 [] [] dX8_says_26 (ct_X6_hasRow l e18) lk_437 lk_438 lk_439 (by decide) h15 lk_93 lk_440 ⟨cn_X6_hasRow, (by decide), by decide⟩ rfl (Nat.le_of_ble_eq_true rfl) (Nat.le_of_ble_eq_true rfl) (Nat.le_of_ble_eq_true rfl) (x_ri ?_)
    exact t_X8_says_c26 l H
  · replace H := x_ifp c12 H
    exact x_wk (le_s (le_n (le_n (le_s (le_s le_0))))) (t_X8_says_14 l H)

def f_X8_says_c1 (v0 : Nat) (v1 : Int32) (v2 : Int32) (s0 : Int32) (M : XM) : Option (Int32 × XM) :=
  if s0 = 0 then (f_X8_says_14 v0 M) else (x_bd (f_X8_isKind v2 M) (f_X8_says_c8 v0 v1 v2))
set_option maxRecDepth 20000 in
set_option maxHeartbeats 4000000 in
theorem t_X8_says_c1 (l : Launch) {v0 : Nat} {v1 : Int32} {v2 : Int32} {s0 : Int32} {M : XM} {q : Int32 × XM} (H : f_X8_says_c1 v0 v1 v2 s0 M = some q) : AW l m_X8_says 4 0 0 (x_Ri q) 0 0 4 [some (.ref v0), some (.int v1), some (.int v2), none, none] [(.int s0)] M := by
  unfold f_X8_says_c1 at H
  refine x_if_eq 4 14 dX8_says_4 (by decide) (fun c4 => ?_) (fun c4 => ?_)
  · replace H := x_ifp c4 H
    exact x_wk (le_s (le_n (le_n (le_s (le_s le_0))))) (t_X8_says_14 l H)
  · replace H := x_ifn c4 H
    refine x_iload_n 7 2 dX8_says_7 rfl rfl ?_
    obtain ⟨r10, M9, e11, H⟩ := x_bd_of H
    refine x_callS 8 134 [(.int v2)] [] dX8_says_8 (ct_X8_isKind l e11) lk_499 lk_500 lk_85 lk_501 ⟨cn_X8_isKind, (by decide), by decide⟩ rfl (Nat.le_of_ble_eq_true rfl) (Nat.le_of_ble_eq_true rfl) (Nat.le_of_ble_eq_true rfl) (x_ri ?_)
    exact t_X8_says_c8 l H

def f_X8_says (v0 : Nat) (v1 : Int32) (v2 : Int32) (M : XM) : Option (Int32 × XM) :=
  x_bd (f_X8_isShelf v1 M) (f_X8_says_c1 v0 v1 v2)
set_option maxRecDepth 20000 in
set_option maxHeartbeats 4000000 in
theorem t_X8_says (l : Launch) {v0 : Nat} {v1 : Int32} {v2 : Int32} {M : XM} {q : Int32 × XM} (H : f_X8_says v0 v1 v2 M = some q) : AW l m_X8_says 4 0 0 (x_Ri q) 0 0 0 [some (.ref v0), some (.int v1), some (.int v2), none, none] [] M := by
  unfold f_X8_says at H
  refine x_iload_n 0 1 dX8_says_0 rfl rfl ?_
  obtain ⟨r2, M1, e3, H⟩ := x_bd_of H
  refine x_callS 1 82 [(.int v1)] [] dX8_says_1 (ct_X8_isShelf l e3) lk_407 lk_408 lk_85 lk_409 ⟨cn_X8_isShelf, (by decide), by decide⟩ rfl (Nat.le_of_ble_eq_true rfl) (Nat.le_of_ble_eq_true rfl) (Nat.le_of_ble_eq_true rfl) (x_ri ?_)
  exact t_X8_says_c1 l H

theorem ct_X8_says (l : Launch) {v0 : Nat} {v1 : Int32} {v2 : Int32} {M : XM} {q : Int32 × XM} (H : f_X8_says v0 v1 v2 M = some q) : Ct l m_X8_says 4 0 0 [(.ref v0), (.int v1), (.int v2)] M (x_Ri q) := x_met l m_X8_says 4 0 0 [(.ref v0), (.int v1), (.int v2)] M (x_Ri q) _ rfl rfl (Nat.le_of_ble_eq_true rfl) (t_X8_says l H)
theorem lk_521 : Cond.methodLink RX8 160 yX4_hasRoomForCounter ∈ x_TB := x_tb (k := 521) (by decide +kernel) rfl
theorem lk_525 : Cond.methodLink RX8 163 yX4_addCounter ∈ x_TB := x_tb (k := 525) (by decide +kernel) rfl
abbrev m_X8_counter : XU := (yX8_counter, cX8_counter, 3, (some .int))
theorem cn_X8_counter : m_X8_counter.1.cls ≠ "java/lang/invoke/MethodHandle" ∧ m_X8_counter.1.cls ≠ "java/lang/invoke/VarHandle" ∧ (parseMethodDescriptor m_X8_counter.1.desc).map (fun q => q.parameters.length) = some 2 := by decide +kernel
def f_X8_counter_23 (v0 : Nat) (M : XM) : Option (Int32 × XM) :=
  if x_tag M v0 = 8 + 10 then (x_bd (f_X8_refuse v0 (-6 : Int32) M) (fun r12 M11 => some (r12, M11))) else none
set_option maxRecDepth 20000 in
set_option maxHeartbeats 4000000 in
theorem t_X8_counter_23 (l : Launch) {v0 : Nat} {M : XM} {q : Int32 × XM} (H : f_X8_counter_23 v0 M = some q) : AW l m_X8_counter 4 0 0 (x_Ri q) 0 0 23 [some (.ref v0), none, none] [] M := by
  unfold f_X8_counter_23 at H
  refine x_aload_n 23 0 dX8_counter_23 rfl rfl ?_
  refine x_bipush 24 (-6 : Int32) dX8_counter_24 (by decide) ?_
  obtain ⟨h10, H⟩ := x_ckp H
  obtain ⟨r12, M11, e13, H⟩ := x_bd_of H
  refine x_callV 26 86 8 [(.int (-6 : Int32))] [] dX8_counter_26 (ct_X8_refuse l e13) lk_410 lk_412 lk_0 (by decide) h10 lk_85 lk_413 ⟨cn_X8_refuse, (by decide), by decide⟩ rfl (Nat.le_of_ble_eq_true rfl) (Nat.le_of_ble_eq_true rfl) (Nat.le_of_ble_eq_true rfl) (x_ri ?_)
  cases H
  exact x_iret 29 dX8_counter_29 .int rfl rfl (Nat.le_of_ble_eq_true rfl) (Nat.le_of_ble_eq_true rfl) ⟨rfl, rfl⟩

def f_X8_counter_c34 (v0 : Nat) (v1 : Int32) (v2 : Int32) (s0 : Int32) (M : XM) : Option (Int32 × XM) :=
  if s0 = 0 then (if x_tag M v0 = 8 + 10 then (x_bd (f_X8_refuse v0 (-7 : Int32) M) (fun r23 M22 => some (r23, M22))) else none) else (if x_tag M v0 = 8 + 10 then (if x_tag M (x_r M v0 0) = 4 + 10 then (x_bd (f_X4_addCounter (x_r M v0 0) v1 v2 M) (fun r28 M27 => some (r28, M27))) else none) else none)
set_option maxRecDepth 20000 in
set_option maxHeartbeats 4000000 in
theorem t_X8_counter_c34 (l : Launch) {v0 : Nat} {v1 : Int32} {v2 : Int32} {s0 : Int32} {M : XM} {q : Int32 × XM} (H : f_X8_counter_c34 v0 v1 v2 s0 M = some q) : AW l m_X8_counter 4 0 0 (x_Ri q) 0 0 37 [some (.ref v0), some (.int v1), some (.int v2)] [(.int s0)] M := by
  unfold f_X8_counter_c34 at H
  refine x_if_ne 37 47 dX8_counter_37 (by decide) (fun c20 => ?_) (fun c20 => ?_)
  · replace H := x_ifn c20 H
    refine x_aload_n 47 0 dX8_counter_47 rfl rfl ?_
    obtain ⟨h25, H⟩ := x_ckp H
    refine x_getf 48 10 8 0 (.ref (x_r M v0 0)) dX8_counter_48 lk_360 (by decide) (by decide) rfl (fun _ => rfl) h25 ?_
    refine x_iload_n 51 1 dX8_counter_51 rfl rfl ?_
    refine x_iload_n 52 2 dX8_counter_52 rfl rfl ?_
    obtain ⟨h26, H⟩ := x_ckp H
    obtain ⟨r28, M27, e29, H⟩ := x_bd_of H
    refine x_callV 53 163 4 [(.int v1), (.int v2)] [] dX8_counter_53 (ct_X4_addCounter l e29) lk_525 lk_526 lk_527 (by decide) h26 lk_86 lk_528 ⟨cn_X4_addCounter, (by decide), by decide⟩ rfl (Nat.le_of_ble_eq_true rfl) (Nat.le_of_ble_eq_true rfl) (Nat.le_of_ble_eq_true rfl) (x_ri ?_)
    cases H
    exact x_iret 56 dX8_counter_56 .int rfl rfl (Nat.le_of_ble_eq_true rfl) (Nat.le_of_ble_eq_true rfl) ⟨rfl, rfl⟩
  · replace H := x_ifp c20 H
    refine x_aload_n 40 0 dX8_counter_40 rfl rfl ?_
    refine x_bipush 41 (-7 : Int32) dX8_counter_41 (by decide) ?_
    obtain ⟨h21, H⟩ := x_ckp H
    obtain ⟨r23, M22, e24, H⟩ := x_bd_of H
    refine x_callV 43 86 8 [(.int (-7 : Int32))] [] dX8_counter_43 (ct_X8_refuse l e24) lk_410 lk_412 lk_0 (by decide) h21 lk_85 lk_413 ⟨cn_X8_refuse, (by decide), by decide⟩ rfl (Nat.le_of_ble_eq_true rfl) (Nat.le_of_ble_eq_true rfl) (Nat.le_of_ble_eq_true rfl) (x_ri ?_)
    cases H
    exact x_iret 46 dX8_counter_46 .int rfl rfl (Nat.le_of_ble_eq_true rfl) (Nat.le_of_ble_eq_true rfl) ⟨rfl, rfl⟩

def f_X8_counter_c1 (v0 : Nat) (v1 : Int32) (v2 : Int32) (s0 : Int32) (M : XM) : Option (Int32 × XM) :=
  if s0 = 0 then (if x_tag M v0 = 8 + 10 then (x_bd (f_X8_refuse v0 (-1 : Int32) M) (fun r7 M6 => some (r7, M6))) else none) else (if v2 < 0 then (f_X8_counter_23 v0 M) else (if v2 ≤ (9 : Int32) then (if x_tag M v0 = 8 + 10 then (if x_tag M (x_r M v0 0) = 4 + 10 then (x_bd (f_X4_hasRoomForCounter (x_r M v0 0) M) (f_X8_counter_c34 v0 v1 v2)) else none) else none) else (f_X8_counter_23 v0 M)))
set_option maxRecDepth 20000 in
set_option maxHeartbeats 4000000 in
theorem t_X8_counter_c1 (l : Launch) {v0 : Nat} {v1 : Int32} {v2 : Int32} {s0 : Int32} {M : XM} {q : Int32 × XM} (H : f_X8_counter_c1 v0 v1 v2 s0 M = some q) : AW l m_X8_counter 4 0 0 (x_Ri q) 0 0 4 [some (.ref v0), some (.int v1), some (.int v2)] [(.int s0)] M := by
  unfold f_X8_counter_c1 at H
  refine x_if_ne 4 13 dX8_counter_4 (by decide) (fun c4 => ?_) (fun c4 => ?_)
  · replace H := x_ifn c4 H
    refine x_iload_n 13 2 dX8_counter_13 rfl rfl ?_
    refine x_if_lt 14 23 dX8_counter_14 (by decide) (fun c9 => ?_) (fun c9 => ?_)
    · replace H := x_ifp c9 H
      exact x_wk (le_s (le_n (le_n le_0))) (t_X8_counter_23 l H)
    · replace H := x_ifn c9 H
      refine x_iload_n 17 2 dX8_counter_17 rfl rfl ?_
      refine x_bipush 18 (9 : Int32) dX8_counter_18 (by decide) ?_
      refine x_icmp_le 20 30 dX8_counter_20 (by decide) (fun c14 => ?_) (fun c14 => ?_)
      · replace H := x_ifp c14 H
        refine x_aload_n 30 0 dX8_counter_30 rfl rfl ?_
        obtain ⟨h15, H⟩ := x_ckp H
        refine x_getf 31 10 8 0 (.ref (x_r M v0 0)) dX8_counter_31 lk_360 (by decide) (by decide) rfl (fun _ => rfl) h15 ?_
        obtain ⟨h16, H⟩ := x_ckp H
        obtain ⟨r18, M17, e19, H⟩ := x_bd_of H
        refine x_callV 34 160 4 [] [] dX8_counter_34 (ct_X4_hasRoomForCounter l e19) lk_521 lk_522 lk_523 (by decide) h16 lk_86 lk_524 ⟨cn_X4_hasRoomForCounter, (by decide), by decide⟩ rfl (Nat.le_of_ble_eq_true rfl) (Nat.le_of_ble_eq_true rfl) (Nat.le_of_ble_eq_true rfl) (x_ri ?_)
        exact t_X8_counter_c34 l H
      · replace H := x_ifn c14 H
        exact x_wk (le_s (le_n (le_n le_0))) (t_X8_counter_23 l H)
  · replace H := x_ifp c4 H
    refine x_aload_n 7 0 dX8_counter_7 rfl rfl ?_
    refine x_iconst 8 (-1 : Int32) dX8_counter_8 (by decide) ?_
    obtain ⟨h5, H⟩ := x_ckp H
    obtain ⟨r7, M6, e8, H⟩ := x_bd_of H
    refine x_callV 9 86 8 [(.int (-1 : Int32))] [] dX8_counter_9 (ct_X8_refuse l e8) lk_410 lk_412 lk_0 (by decide) h5 lk_85 lk_413 ⟨cn_X8_refuse, (by decide), by decide⟩ rfl (Nat.le_of_ble_eq_true rfl) (Nat.le_of_ble_eq_true rfl) (Nat.le_of_ble_eq_true rfl) (x_ri ?_)
    cases H
    exact x_iret 12 dX8_counter_12 .int rfl rfl (Nat.le_of_ble_eq_true rfl) (Nat.le_of_ble_eq_true rfl) ⟨rfl, rfl⟩

def f_X8_counter (v0 : Nat) (v1 : Int32) (v2 : Int32) (M : XM) : Option (Int32 × XM) :=
  x_bd (f_X8_isKind v1 M) (f_X8_counter_c1 v0 v1 v2)
set_option maxRecDepth 20000 in
set_option maxHeartbeats 4000000 in
theorem t_X8_counter (l : Launch) {v0 : Nat} {v1 : Int32} {v2 : Int32} {M : XM} {q : Int32 × XM} (H : f_X8_counter v0 v1 v2 M = some q) : AW l m_X8_counter 4 0 0 (x_Ri q) 0 0 0 [some (.ref v0), some (.int v1), some (.int v2)] [] M := by
  unfold f_X8_counter at H
  refine x_iload_n 0 1 dX8_counter_0 rfl rfl ?_
  obtain ⟨r2, M1, e3, H⟩ := x_bd_of H
  refine x_callS 1 134 [(.int v1)] [] dX8_counter_1 (ct_X8_isKind l e3) lk_499 lk_500 lk_85 lk_501 ⟨cn_X8_isKind, (by decide), by decide⟩ rfl (Nat.le_of_ble_eq_true rfl) (Nat.le_of_ble_eq_true rfl) (Nat.le_of_ble_eq_true rfl) (x_ri ?_)
  exact t_X8_counter_c1 l H

theorem ct_X8_counter (l : Launch) {v0 : Nat} {v1 : Int32} {v2 : Int32} {M : XM} {q : Int32 × XM} (H : f_X8_counter v0 v1 v2 M = some q) : Ct l m_X8_counter 4 0 0 [(.ref v0), (.int v1), (.int v2)] M (x_Ri q) := x_met l m_X8_counter 4 0 0 [(.ref v0), (.int v1), (.int v2)] M (x_Ri q) _ rfl rfl (Nat.le_of_ble_eq_true rfl) (t_X8_counter l H)
theorem lk_129 : Cond.fieldLink RX8 166 RX2 "a" "I" ∈ x_TB := x_tb (k := 129) (by decide +kernel) rfl
theorem lk_135 : Cond.fieldLink RX8 169 RX2 "at" "I" ∈ x_TB := x_tb (k := 135) (by decide +kernel) rfl
theorem lk_137 : Cond.fieldLink RX8 172 RX2 "off" "I" ∈ x_TB := x_tb (k := 137) (by decide +kernel) rfl
theorem lk_141 : Cond.fieldLink RX8 175 RX2 "heard" "I" ∈ x_TB := x_tb (k := 141) (by decide +kernel) rfl
abbrev m_X8_counterOf : XU := (yX8_counterOf, cX8_counterOf, 4, (some .int))
theorem cn_X8_counterOf : m_X8_counterOf.1.cls ≠ "java/lang/invoke/MethodHandle" ∧ m_X8_counterOf.1.cls ≠ "java/lang/invoke/VarHandle" ∧ (parseMethodDescriptor m_X8_counterOf.1.desc).map (fun q => q.parameters.length) = some 2 := by decide +kernel
def f_X8_counterOf_c2 (v0 : Nat) (v1 : Int32) (v2 : Int32) (s0 : Int32) (M : XM) : Option (Int32 × XM) :=
  if s0 = 0 then (if x_tag M v0 = 8 + 10 then (x_bd (f_X8_refuse v0 (-5 : Int32) M) (fun r8 M7 => some (r8, M7))) else none) else (if x_tag M v0 = 8 + 10 then (if x_tag M (x_r M v0 0) = 4 + 10 then (if x_at M (x_r M (x_r M v0 0) 0) 3 v1 = true then (if v2 = (0 : Int32) then (if x_tag M (x_r M (x_r M (x_r M v0 0) 0) v1.toNatClampNeg) = 2 + 10 then (some ((x_i M (x_r M (x_r M (x_r M v0 0) 0) v1.toNatClampNeg) 0), M)) else none) else if v2 = (1 : Int32) then (if x_tag M (x_r M (x_r M (x_r M v0 0) 0) v1.toNatClampNeg) = 2 + 10 then (some ((x_i M (x_r M (x_r M (x_r M v0 0) 0) v1.toNatClampNeg) 1), M)) else none) else if v2 = (2 : Int32) then (if x_tag M (x_r M (x_r M (x_r M v0 0) 0) v1.toNatClampNeg) = 2 + 10 then (some ((x_i M (x_r M (x_r M (x_r M v0 0) 0) v1.toNatClampNeg) 2), M)) else none) else if v2 = (3 : Int32) then (if x_tag M (x_r M (x_r M (x_r M v0 0) 0) v1.toNatClampNeg) = 2 + 10 then (some ((x_i M (x_r M (x_r M (x_r M v0 0) 0) v1.toNatClampNeg) 3), M)) else none) else if v2 = (4 : Int32) then (if x_tag M (x_r M (x_r M (x_r M v0 0) 0) v1.toNatClampNeg) = 2 + 10 then (some ((x_i M (x_r M (x_r M (x_r M v0 0) 0) v1.toNatClampNeg) 4), M)) else none) else x_bd (f_X8_refuse v0 (-5 : Int32) M) (fun r24 M23 => some (r24, M23))) else none) else none) else none)
set_option maxRecDepth 20000 in
set_option maxHeartbeats 4000000 in
theorem t_X8_counterOf_c2 (l : Launch) {v0 : Nat} {v1 : Int32} {v2 : Int32} {s0 : Int32} {M : XM} {q : Int32 × XM} (H : f_X8_counterOf_c2 v0 v1 v2 s0 M = some q) : AW l m_X8_counterOf 2 0 0 (x_Ri q) 0 0 5 [some (.ref v0), some (.int v1), some (.int v2), none] [(.int s0)] M := by
  unfold f_X8_counterOf_c2 at H
  refine x_if_ne 5 15 dX8_counterOf_5 (by decide) (fun c5 => ?_) (fun c5 => ?_)
  · replace H := x_ifn c5 H
    refine x_aload_n 15 0 dX8_counterOf_15 rfl rfl ?_
    obtain ⟨h10, H⟩ := x_ckp H
    refine x_getf 16 10 8 0 (.ref (x_r M v0 0)) dX8_counterOf_16 lk_360 (by decide) (by decide) rfl (fun _ => rfl) h10 ?_
    obtain ⟨h11, H⟩ := x_ckp H
    refine x_getf 19 144 4 0 (.ref (x_r M (x_r M v0 0) 0)) dX8_counterOf_19 lk_158 (by decide) (by decide) rfl (fun _ => rfl) h11 ?_
    refine x_iload_n 22 1 dX8_counterOf_22 rfl rfl ?_
    obtain ⟨h12, H⟩ := x_ckp H
    refine x_aald3 23 dX8_counterOf_23 h12 ?_
    refine x_astore_n 24 3 [some (.ref v0), some (.int v1), some (.int v2), some (.ref (x_r M (x_r M (x_r M v0 0) 0) v1.toNatClampNeg))] dX8_counterOf_24 rfl rfl (Nat.le_of_ble_eq_true rfl) rfl ?_
    refine x_iload_n 25 2 dX8_counterOf_25 rfl rfl ?_
    by_cases c13 : v2 = (0 : Int32)
    · replace H := x_ifp c13 H
      refine x_tableIn (off := 34) 26 60 dX8_counterOf_26 (by rw [c13]; decide) (by rw [c13]; decide) (by rw [c13]; rfl) (by decide) ?_
      refine x_aload_n 60 3 dX8_counterOf_60 rfl rfl ?_
      obtain ⟨h14, H⟩ := x_ckp H
      refine x_getf 61 148 2 0 (.int (x_i M (x_r M (x_r M (x_r M v0 0) 0) v1.toNatClampNeg) 0)) dX8_counterOf_61 lk_125 (by decide) (by decide) rfl (fun _ => rfl) h14 ?_
      cases H
      exact x_iret 64 dX8_counterOf_64 .int rfl rfl (Nat.le_of_ble_eq_true rfl) (Nat.le_of_ble_eq_true rfl) ⟨rfl, rfl⟩
    · replace H := x_ifn c13 H
      by_cases c15 : v2 = (1 : Int32)
      · replace H := x_ifp c15 H
        refine x_tableIn (off := 39) 26 65 dX8_counterOf_26 (by rw [c15]; decide) (by rw [c15]; decide) (by rw [c15]; rfl) (by decide) ?_
        refine x_aload_n 65 3 dX8_counterOf_65 rfl rfl ?_
        obtain ⟨h16, H⟩ := x_ckp H
        refine x_getf 66 166 2 1 (.int (x_i M (x_r M (x_r M (x_r M v0 0) 0) v1.toNatClampNeg) 1)) dX8_counterOf_66 lk_129 (by decide) (by decide) rfl (fun _ => rfl) h16 ?_
        cases H
        exact x_iret 69 dX8_counterOf_69 .int rfl rfl (Nat.le_of_ble_eq_true rfl) (Nat.le_of_ble_eq_true rfl) ⟨rfl, rfl⟩
      · replace H := x_ifn c15 H
        by_cases c17 : v2 = (2 : Int32)
        · replace H := x_ifp c17 H
          refine x_tableIn (off := 44) 26 70 dX8_counterOf_26 (by rw [c17]; decide) (by rw [c17]; decide) (by rw [c17]; rfl) (by decide) ?_
          refine x_aload_n 70 3 dX8_counterOf_70 rfl rfl ?_
          obtain ⟨h18, H⟩ := x_ckp H
          refine x_getf 71 169 2 2 (.int (x_i M (x_r M (x_r M (x_r M v0 0) 0) v1.toNatClampNeg) 2)) dX8_counterOf_71 lk_135 (by decide) (by decide) rfl (fun _ => rfl) h18 ?_
          cases H
          exact x_iret 74 dX8_counterOf_74 .int rfl rfl (Nat.le_of_ble_eq_true rfl) (Nat.le_of_ble_eq_true rfl) ⟨rfl, rfl⟩
        · replace H := x_ifn c17 H
          by_cases c19 : v2 = (3 : Int32)
          · replace H := x_ifp c19 H
            refine x_tableIn (off := 49) 26 75 dX8_counterOf_26 (by rw [c19]; decide) (by rw [c19]; decide) (by rw [c19]; rfl) (by decide) ?_
            refine x_aload_n 75 3 dX8_counterOf_75 rfl rfl ?_
            obtain ⟨h20, H⟩ := x_ckp H
            refine x_getf 76 172 2 3 (.int (x_i M (x_r M (x_r M (x_r M v0 0) 0) v1.toNatClampNeg) 3)) dX8_counterOf_76 lk_137 (by decide) (by decide) rfl (fun _ => rfl) h20 ?_
            cases H
            exact x_iret 79 dX8_counterOf_79 .int rfl rfl (Nat.le_of_ble_eq_true rfl) (Nat.le_of_ble_eq_true rfl) ⟨rfl, rfl⟩
          · replace H := x_ifn c19 H
            by_cases c21 : v2 = (4 : Int32)
            · replace H := x_ifp c21 H
              refine x_tableIn (off := 54) 26 80 dX8_counterOf_26 (by rw [c21]; decide) (by rw [c21]; decide) (by rw [c21]; rfl) (by decide) ?_
              refine x_aload_n 80 3 dX8_counterOf_80 rfl rfl ?_
              obtain ⟨h22, H⟩ := x_ckp H
              refine x_getf 81 175 2 4 (.int (x_i M (x_r M (x_r M (x_r M v0 0) 0) v1.toNatClampNeg) 4)) dX8_counterOf_81 lk_141 (by decide) (by decide) rfl (fun _ => rfl) h22 ?_
              cases H
              exact x_iret 84 dX8_counterOf_84 .int rfl rfl (Nat.le_of_ble_eq_true rfl) (Nat.le_of_ble_eq_true rfl) ⟨rfl, rfl⟩
            · replace H := x_ifn c21 H
              refine x_tableOut 26 85 dX8_counterOf_26 (by have n0 := lv_neT (a := 0) c13 (by decide); have n1 := lv_neT (a := 1) c15 (by decide); have n2 := lv_neT (a := 2) c17 (by decide); have n3 := lv_neT (a := 3) c19 (by decide); have n4 := lv_neT (a := 4) c21 (by decide); omega) (by decide) ?_
              refine x_aload_n 85 0 dX8_counterOf_85 rfl rfl ?_
              refine x_bipush 86 (-5 : Int32) dX8_counterOf_86 (by decide) ?_
              obtain ⟨r24, M23, e25, H⟩ := x_bd_of H
              refine x_callV 88 86 8 [(.int (-5 : Int32))] [] dX8_counterOf_88 (ct_X8_refuse l e25) lk_410 lk_412 lk_0 (by decide) h10 lk_85 lk_413 ⟨cn_X8_refuse, (by decide), by decide⟩ rfl (Nat.le_of_ble_eq_true rfl) (Nat.le_of_ble_eq_true rfl) (Nat.le_of_ble_eq_true rfl) (x_ri ?_)
              cases H
              exact x_iret 91 dX8_counterOf_91 .int rfl rfl (Nat.le_of_ble_eq_true rfl) (Nat.le_of_ble_eq_true rfl) ⟨rfl, rfl⟩
  · replace H := x_ifp c5 H
    refine x_aload_n 8 0 dX8_counterOf_8 rfl rfl ?_
    refine x_bipush 9 (-5 : Int32) dX8_counterOf_9 (by decide) ?_
    obtain ⟨h6, H⟩ := x_ckp H
    obtain ⟨r8, M7, e9, H⟩ := x_bd_of H
    refine x_callV 11 86 8 [(.int (-5 : Int32))] [] dX8_counterOf_11 (ct_X8_refuse l e9) lk_410 lk_412 lk_0 (by decide) h6 lk_85 lk_413 ⟨cn_X8_refuse, (by decide), by decide⟩ rfl (Nat.le_of_ble_eq_true rfl) (Nat.le_of_ble_eq_true rfl) (Nat.le_of_ble_eq_true rfl) (x_ri ?_)
    cases H
    exact x_iret 14 dX8_counterOf_14 .int rfl rfl (Nat.le_of_ble_eq_true rfl) (Nat.le_of_ble_eq_true rfl) ⟨rfl, rfl⟩

def f_X8_counterOf (v0 : Nat) (v1 : Int32) (v2 : Int32) (M : XM) : Option (Int32 × XM) :=
  if x_tag M v0 = 8 + 10 then (x_bd (f_X8_isCounter v0 v1 M) (f_X8_counterOf_c2 v0 v1 v2)) else none
set_option maxRecDepth 20000 in
set_option maxHeartbeats 4000000 in
theorem t_X8_counterOf (l : Launch) {v0 : Nat} {v1 : Int32} {v2 : Int32} {M : XM} {q : Int32 × XM} (H : f_X8_counterOf v0 v1 v2 M = some q) : AW l m_X8_counterOf 2 0 0 (x_Ri q) 0 0 0 [some (.ref v0), some (.int v1), some (.int v2), none] [] M := by
  unfold f_X8_counterOf at H
  refine x_aload_n 0 0 dX8_counterOf_0 rfl rfl ?_
  refine x_iload_n 1 1 dX8_counterOf_1 rfl rfl ?_
  obtain ⟨h1, H⟩ := x_ckp H
  obtain ⟨r3, M2, e4, H⟩ := x_bd_of H
  refine x_callV 2 123 8 [(.int v1)] [] dX8_counterOf_2 (ct_X8_isCounter l e4) lk_478 lk_480 lk_3 (by decide) h1 lk_85 lk_481 ⟨cn_X8_isCounter, (by decide), by decide⟩ rfl (Nat.le_of_ble_eq_true rfl) (Nat.le_of_ble_eq_true rfl) (Nat.le_of_ble_eq_true rfl) (x_ri ?_)
  exact t_X8_counterOf_c2 l H

theorem ct_X8_counterOf (l : Launch) {v0 : Nat} {v1 : Int32} {v2 : Int32} {M : XM} {q : Int32 × XM} (H : f_X8_counterOf v0 v1 v2 M = some q) : Ct l m_X8_counterOf 2 0 0 [(.ref v0), (.int v1), (.int v2)] M (x_Ri q) := x_met l m_X8_counterOf 2 0 0 [(.ref v0), (.int v1), (.int v2)] M (x_Ri q) _ rfl rfl (Nat.le_of_ble_eq_true rfl) (t_X8_counterOf l H)
theorem lk_545 : Cond.methodLink RX8 178 yX8_isSetting ∈ x_TB := x_tb (k := 545) (by decide +kernel) rfl
theorem lk_550 : Cond.fieldLink RX8 181 "WhatDidYouSay" "LEAST" "[I" ∈ x_TB := x_tb (k := 550) (by decide +kernel) rfl
theorem lk_552 : Cond.methodLink RX8 187 yX4_change ∈ x_TB := x_tb (k := 552) (by decide +kernel) rfl
abbrev m_X8_ask : XU := (yX8_ask, cX8_ask, 3, (some .int))
theorem cn_X8_ask : m_X8_ask.1.cls ≠ "java/lang/invoke/MethodHandle" ∧ m_X8_ask.1.cls ≠ "java/lang/invoke/VarHandle" ∧ (parseMethodDescriptor m_X8_ask.1.desc).map (fun q => q.parameters.length) = some 2 := by decide +kernel
def f_X8_ask_25 (v0 : Nat) (M : XM) : Option (Int32 × XM) :=
  if x_tag M v0 = 8 + 10 then (x_bd (f_X8_refuse v0 (-6 : Int32) M) (fun r7 M6 => some (r7, M6))) else none
set_option maxRecDepth 20000 in
set_option maxHeartbeats 4000000 in
theorem t_X8_ask_25 (l : Launch) {v0 : Nat} {M : XM} {q : Int32 × XM} (H : f_X8_ask_25 v0 M = some q) : AW l m_X8_ask 3 0 0 (x_Ri q) 0 0 25 [some (.ref v0), none, none] [] M := by
  unfold f_X8_ask_25 at H
  refine x_aload_n 25 0 dX8_ask_25 rfl rfl ?_
  refine x_bipush 26 (-6 : Int32) dX8_ask_26 (by decide) ?_
  obtain ⟨h5, H⟩ := x_ckp H
  obtain ⟨r7, M6, e8, H⟩ := x_bd_of H
  refine x_callV 28 86 8 [(.int (-6 : Int32))] [] dX8_ask_28 (ct_X8_refuse l e8) lk_410 lk_412 lk_0 (by decide) h5 lk_85 lk_413 ⟨cn_X8_refuse, (by decide), by decide⟩ rfl (Nat.le_of_ble_eq_true rfl) (Nat.le_of_ble_eq_true rfl) (Nat.le_of_ble_eq_true rfl) (x_ri ?_)
  cases H
  exact x_iret 31 dX8_ask_31 .int rfl rfl (Nat.le_of_ble_eq_true rfl) (Nat.le_of_ble_eq_true rfl) ⟨rfl, rfl⟩

def f_X8_ask_c1 (v0 : Nat) (v1 : Int32) (v2 : Int32) (s0 : Int32) (M : XM) : Option (Int32 × XM) :=
  if s0 = 0 then (f_X8_ask_25 v0 M) else (if x_at M 3 5 v1 = true then (if v2 < (x_i M 3 v1.toNatClampNeg) then (f_X8_ask_25 v0 M) else (if x_at M 4 5 v1 = true then (if v2 ≤ (x_i M 4 v1.toNatClampNeg) then (if x_tag M v0 = 8 + 10 then (if x_tag M (x_r M v0 0) = 4 + 10 then (x_bd (f_X4_change (x_r M v0 0) v1 v2 M) (fun r16 M15 => some (r16, M15))) else none) else none) else (f_X8_ask_25 v0 M)) else none)) else none)
set_option maxRecDepth 20000 in
set_option maxHeartbeats 4000000 in
theorem t_X8_ask_c1 (l : Launch) {v0 : Nat} {v1 : Int32} {v2 : Int32} {s0 : Int32} {M : XM} {q : Int32 × XM} (H : f_X8_ask_c1 v0 v1 v2 s0 M = some q) : AW l m_X8_ask 3 0 0 (x_Ri q) 0 0 4 [some (.ref v0), some (.int v1), some (.int v2)] [(.int s0)] M := by
  unfold f_X8_ask_c1 at H
  refine x_if_eq 4 25 dX8_ask_4 (by decide) (fun c4 => ?_) (fun c4 => ?_)
  · replace H := x_ifp c4 H
    exact x_wk (le_s (le_n (le_n le_0))) (t_X8_ask_25 l H)
  · replace H := x_ifn c4 H
    refine x_iload_n 7 2 dX8_ask_7 rfl rfl ?_
    refine x_gets 8 181 3 "LEAST" "[I" dX8_ask_8 "WhatDidYouSay" x_ZL lk_550 ?_
    refine x_iload_n 11 1 dX8_ask_11 rfl rfl ?_
    obtain ⟨h9, H⟩ := x_ckp H
    refine x_siald 12 dX8_ask_12 h9 (by decide) ?_
    refine x_icmp_lt 13 25 dX8_ask_13 (by decide) (fun c10 => ?_) (fun c10 => ?_)
    · replace H := x_ifp c10 H
      exact x_wk (le_s (le_n (le_n le_0))) (t_X8_ask_25 l H)
    · replace H := x_ifn c10 H
      refine x_iload_n 16 2 dX8_ask_16 rfl rfl ?_
      refine x_gets 17 184 4 "MOST" "[I" dX8_ask_17 "WhatDidYouSay" x_ZM lk_548 ?_
      refine x_iload_n 20 1 dX8_ask_20 rfl rfl ?_
      obtain ⟨h11, H⟩ := x_ckp H
      refine x_siald 21 dX8_ask_21 h11 (by decide) ?_
      refine x_icmp_le 22 32 dX8_ask_22 (by decide) (fun c12 => ?_) (fun c12 => ?_)
      · replace H := x_ifp c12 H
        refine x_aload_n 32 0 dX8_ask_32 rfl rfl ?_
        obtain ⟨h13, H⟩ := x_ckp H
        refine x_getf 33 10 8 0 (.ref (x_r M v0 0)) dX8_ask_33 lk_360 (by decide) (by decide) rfl (fun _ => rfl) h13 ?_
        refine x_iload_n 36 1 dX8_ask_36 rfl rfl ?_
        refine x_iload_n 37 2 dX8_ask_37 rfl rfl ?_
        obtain ⟨h14, H⟩ := x_ckp H
        obtain ⟨r16, M15, e17, H⟩ := x_bd_of H
        refine x_callV 38 187 4 [(.int v1), (.int v2)] [] dX8_ask_38 (ct_X4_change l e17) lk_552 lk_553 lk_554 (by decide) h14 lk_86 lk_555 ⟨cn_X4_change, (by decide), by decide⟩ rfl (Nat.le_of_ble_eq_true rfl) (Nat.le_of_ble_eq_true rfl) (Nat.le_of_ble_eq_true rfl) (x_ri ?_)
        cases H
        exact x_iret 41 dX8_ask_41 .int rfl rfl (Nat.le_of_ble_eq_true rfl) (Nat.le_of_ble_eq_true rfl) ⟨rfl, rfl⟩
      · replace H := x_ifn c12 H
        exact x_wk (le_s (le_n (le_n le_0))) (t_X8_ask_25 l H)

def f_X8_ask (v0 : Nat) (v1 : Int32) (v2 : Int32) (M : XM) : Option (Int32 × XM) :=
  x_bd (f_X8_isSetting v1 M) (f_X8_ask_c1 v0 v1 v2)
set_option maxRecDepth 20000 in
set_option maxHeartbeats 4000000 in
theorem t_X8_ask (l : Launch) {v0 : Nat} {v1 : Int32} {v2 : Int32} {M : XM} {q : Int32 × XM} (H : f_X8_ask v0 v1 v2 M = some q) : AW l m_X8_ask 3 0 0 (x_Ri q) 0 0 0 [some (.ref v0), some (.int v1), some (.int v2)] [] M := by
  unfold f_X8_ask at H
  refine x_iload_n 0 1 dX8_ask_0 rfl rfl ?_
  obtain ⟨r2, M1, e3, H⟩ := x_bd_of H
  refine x_callS 1 178 [(.int v1)] [] dX8_ask_1 (ct_X8_isSetting l e3) lk_545 lk_546 lk_85 lk_547 ⟨cn_X8_isSetting, (by decide), by decide⟩ rfl (Nat.le_of_ble_eq_true rfl) (Nat.le_of_ble_eq_true rfl) (Nat.le_of_ble_eq_true rfl) (x_ri ?_)
  exact t_X8_ask_c1 l H

theorem ct_X8_ask (l : Launch) {v0 : Nat} {v1 : Int32} {v2 : Int32} {M : XM} {q : Int32 × XM} (H : f_X8_ask v0 v1 v2 M = some q) : Ct l m_X8_ask 3 0 0 [(.ref v0), (.int v1), (.int v2)] M (x_Ri q) := x_met l m_X8_ask 3 0 0 [(.ref v0), (.int v1), (.int v2)] M (x_Ri q) _ rfl rfl (Nat.le_of_ble_eq_true rfl) (t_X8_ask l H)
theorem lk_166 : Cond.fieldLink RX8 190 RX4 "n" "I" ∈ x_TB := x_tb (k := 166) (by decide +kernel) rfl
abbrev m_X8_put : XU := (yX8_put, cX8_put, 4, (some .int))
theorem cn_X8_put : m_X8_put.1.cls ≠ "java/lang/invoke/MethodHandle" ∧ m_X8_put.1.cls ≠ "java/lang/invoke/VarHandle" ∧ (parseMethodDescriptor m_X8_put.1.desc).map (fun q => q.parameters.length) = some 2 := by decide +kernel
def f_X8_put_29 (v0 : Nat) (M : XM) : Option (Int32 × XM) :=
  if x_tag M v0 = 8 + 10 then (x_bd (f_X8_refuse v0 (-6 : Int32) M) (fun r13 M12 => some (r13, M12))) else none
set_option maxRecDepth 20000 in
set_option maxHeartbeats 4000000 in
theorem t_X8_put_29 (l : Launch) {v0 : Nat} {M : XM} {q : Int32 × XM} (H : f_X8_put_29 v0 M = some q) : AW l m_X8_put 2 0 0 (x_Ri q) 0 0 29 [some (.ref v0), none, none, none] [] M := by
  unfold f_X8_put_29 at H
  refine x_aload_n 29 0 dX8_put_29 rfl rfl ?_
  refine x_bipush 30 (-6 : Int32) dX8_put_30 (by decide) ?_
  obtain ⟨h11, H⟩ := x_ckp H
  obtain ⟨r13, M12, e14, H⟩ := x_bd_of H
  refine x_callV 32 86 8 [(.int (-6 : Int32))] [] dX8_put_32 (ct_X8_refuse l e14) lk_410 lk_412 lk_0 (by decide) h11 lk_85 lk_413 ⟨cn_X8_refuse, (by decide), by decide⟩ rfl (Nat.le_of_ble_eq_true rfl) (Nat.le_of_ble_eq_true rfl) (Nat.le_of_ble_eq_true rfl) (x_ri ?_)
  cases H
  exact x_iret 35 dX8_put_35 .int rfl rfl (Nat.le_of_ble_eq_true rfl) (Nat.le_of_ble_eq_true rfl) ⟨rfl, rfl⟩

def f_X8_put_c2 (v0 : Nat) (v1 : Int32) (v2 : Int32) (s0 : Int32) (M : XM) : Option (Int32 × XM) :=
  if s0 = 0 then (if x_tag M v0 = 8 + 10 then (x_bd (f_X8_refuse v0 (-1 : Int32) M) (fun r8 M7 => some (r8, M7))) else none) else (if v2 < 0 then (f_X8_put_29 v0 M) else (if x_tag M v0 = 8 + 10 then (if x_tag M (x_r M v0 0) = 4 + 10 then (if v2 ≤ (x_i M (x_r M v0 0) 2) then (if x_at M (x_r M (x_r M v0 0) 0) 3 v1 = true then (if x_tag M (x_r M (x_r M (x_r M v0 0) 0) v1.toNatClampNeg) = 2 + 10 then (x_lt (x_wi M (x_r M (x_r M (x_r M v0 0) 0) v1.toNatClampNeg) 2 v2) (fun M20 => some ((x_i M (x_r M (x_r M (x_r M v0 0) 0) v1.toNatClampNeg) 2), M20))) else none) else none) else (f_X8_put_29 v0 M)) else none) else none))
set_option maxRecDepth 20000 in
set_option maxHeartbeats 4000000 in
theorem t_X8_put_c2 (l : Launch) {v0 : Nat} {v1 : Int32} {v2 : Int32} {s0 : Int32} {M : XM} {q : Int32 × XM} (H : f_X8_put_c2 v0 v1 v2 s0 M = some q) : AW l m_X8_put 2 0 0 (x_Ri q) 0 0 5 [some (.ref v0), some (.int v1), some (.int v2), none] [(.int s0)] M := by
  unfold f_X8_put_c2 at H
  refine x_if_ne 5 14 dX8_put_5 (by decide) (fun c5 => ?_) (fun c5 => ?_)
  · replace H := x_ifn c5 H
    refine x_iload_n 14 2 dX8_put_14 rfl rfl ?_
    refine x_if_lt 15 29 dX8_put_15 (by decide) (fun c10 => ?_) (fun c10 => ?_)
    · replace H := x_ifp c10 H
      exact x_wk (le_s (le_n (le_n (le_s le_0)))) (t_X8_put_29 l H)
    · replace H := x_ifn c10 H
      refine x_iload_n 18 2 dX8_put_18 rfl rfl ?_
      refine x_aload_n 19 0 dX8_put_19 rfl rfl ?_
      obtain ⟨h15, H⟩ := x_ckp H
      refine x_getf 20 10 8 0 (.ref (x_r M v0 0)) dX8_put_20 lk_360 (by decide) (by decide) rfl (fun _ => rfl) h15 ?_
      obtain ⟨h16, H⟩ := x_ckp H
      refine x_getf 23 190 4 2 (.int (x_i M (x_r M v0 0) 2)) dX8_put_23 lk_166 (by decide) (by decide) rfl (fun _ => rfl) h16 ?_
      refine x_icmp_le 26 36 dX8_put_26 (by decide) (fun c17 => ?_) (fun c17 => ?_)
      · replace H := x_ifp c17 H
        refine x_aload_n 36 0 dX8_put_36 rfl rfl ?_
        refine x_getf 37 10 8 0 (.ref (x_r M v0 0)) dX8_put_37 lk_360 (by decide) (by decide) rfl (fun _ => rfl) h15 ?_
        refine x_getf 40 144 4 0 (.ref (x_r M (x_r M v0 0) 0)) dX8_put_40 lk_158 (by decide) (by decide) rfl (fun _ => rfl) h16 ?_
        refine x_iload_n 43 1 dX8_put_43 rfl rfl ?_
        obtain ⟨h18, H⟩ := x_ckp H
        refine x_aald3 44 dX8_put_44 h18 ?_
        obtain ⟨h19, H⟩ := x_ckp H
        refine x_getf 45 169 2 2 (.int (x_i M (x_r M (x_r M (x_r M v0 0) 0) v1.toNatClampNeg) 2)) dX8_put_45 lk_135 (by decide) (by decide) rfl (fun _ => rfl) h19 ?_
        refine x_istore_n 48 3 [some (.ref v0), some (.int v1), some (.int v2), some (.int (x_i M (x_r M (x_r M (x_r M v0 0) 0) v1.toNatClampNeg) 2))] dX8_put_48 rfl rfl (Nat.le_of_ble_eq_true rfl) rfl ?_
        refine x_aload_n 49 0 dX8_put_49 rfl rfl ?_
        refine x_getf 50 10 8 0 (.ref (x_r M v0 0)) dX8_put_50 lk_360 (by decide) (by decide) rfl (fun _ => rfl) h15 ?_
        refine x_getf 53 144 4 0 (.ref (x_r M (x_r M v0 0) 0)) dX8_put_53 lk_158 (by decide) (by decide) rfl (fun _ => rfl) h16 ?_
        refine x_iload_n 56 1 dX8_put_56 rfl rfl ?_
        refine x_aald3 57 dX8_put_57 h18 ?_
        refine x_iload_n 58 2 dX8_put_58 rfl rfl ?_
        obtain ⟨M20, w21, H⟩ := x_lt_of H
        have h22 : x_tag M20 v0 = 8 + 10 := by rw [w21]; exact h15
        have h23 : x_tag M20 (x_r M v0 0) = 4 + 10 := by rw [w21]; exact h16
        have h24 : x_at M20 (x_r M (x_r M v0 0) 0) 3 v1 = true := by rw [w21]; exact h18
        have h25 : x_tag M20 (x_r M (x_r M v0 0) 0) = 3 := by rw [w21]; exact (x_at_1 h18)
        have h26 : x_tag M20 (x_r M (x_r M (x_r M v0 0) 0) v1.toNatClampNeg) = 2 + 10 := by rw [w21]; exact h19
        refine x_putI' 59 169 2 2 dX8_put_59 lk_135 (by decide) (by decide) rfl (Or.inl rfl) (Or.inl rfl) h19 w21 ?_
        refine x_iload_n 62 3 dX8_put_62 rfl rfl ?_
        cases H
        exact x_iret 63 dX8_put_63 .int rfl rfl (Nat.le_of_ble_eq_true rfl) (Nat.le_of_ble_eq_true rfl) ⟨rfl, rfl⟩
      · replace H := x_ifn c17 H
        exact x_wk (le_s (le_n (le_n (le_s le_0)))) (t_X8_put_29 l H)
  · replace H := x_ifp c5 H
    refine x_aload_n 8 0 dX8_put_8 rfl rfl ?_
    refine x_iconst 9 (-1 : Int32) dX8_put_9 (by decide) ?_
    obtain ⟨h6, H⟩ := x_ckp H
    obtain ⟨r8, M7, e9, H⟩ := x_bd_of H
    refine x_callV 10 86 8 [(.int (-1 : Int32))] [] dX8_put_10 (ct_X8_refuse l e9) lk_410 lk_412 lk_0 (by decide) h6 lk_85 lk_413 ⟨cn_X8_refuse, (by decide), by decide⟩ rfl (Nat.le_of_ble_eq_true rfl) (Nat.le_of_ble_eq_true rfl) (Nat.le_of_ble_eq_true rfl) (x_ri ?_)
    cases H
    exact x_iret 13 dX8_put_13 .int rfl rfl (Nat.le_of_ble_eq_true rfl) (Nat.le_of_ble_eq_true rfl) ⟨rfl, rfl⟩

def f_X8_put (v0 : Nat) (v1 : Int32) (v2 : Int32) (M : XM) : Option (Int32 × XM) :=
  if x_tag M v0 = 8 + 10 then (x_bd (f_X8_isCounter v0 v1 M) (f_X8_put_c2 v0 v1 v2)) else none
set_option maxRecDepth 20000 in
set_option maxHeartbeats 4000000 in
theorem t_X8_put (l : Launch) {v0 : Nat} {v1 : Int32} {v2 : Int32} {M : XM} {q : Int32 × XM} (H : f_X8_put v0 v1 v2 M = some q) : AW l m_X8_put 2 0 0 (x_Ri q) 0 0 0 [some (.ref v0), some (.int v1), some (.int v2), none] [] M := by
  unfold f_X8_put at H
  refine x_aload_n 0 0 dX8_put_0 rfl rfl ?_
  refine x_iload_n 1 1 dX8_put_1 rfl rfl ?_
  obtain ⟨h1, H⟩ := x_ckp H
  obtain ⟨r3, M2, e4, H⟩ := x_bd_of H
  refine x_callV 2 123 8 [(.int v1)] [] dX8_put_2 (ct_X8_isCounter l e4) lk_478 lk_480 lk_3 (by decide) h1 lk_85 lk_481 ⟨cn_X8_isCounter, (by decide), by decide⟩ rfl (Nat.le_of_ble_eq_true rfl) (Nat.le_of_ble_eq_true rfl) (Nat.le_of_ble_eq_true rfl) (x_ri ?_)
  exact t_X8_put_c2 l H

theorem ct_X8_put (l : Launch) {v0 : Nat} {v1 : Int32} {v2 : Int32} {M : XM} {q : Int32 × XM} (H : f_X8_put v0 v1 v2 M = some q) : Ct l m_X8_put 2 0 0 [(.ref v0), (.int v1), (.int v2)] M (x_Ri q) := x_met l m_X8_put 2 0 0 [(.ref v0), (.int v1), (.int v2)] M (x_Ri q) _ rfl rfl (Nat.le_of_ble_eq_true rfl) (t_X8_put l H)
theorem lk_574 : Cond.code yX5_read cX5_read 4 (some .int) ∈ x_TB := x_tb (k := 574) (by decide +kernel) rfl
theorem lk_571 : Cond.methodLink RX8 193 yX5_read ∈ x_TB := x_tb (k := 571) (by decide +kernel) rfl
theorem lk_573 : Cond.selects RX5 yX5_read yX5_read ∈ x_TB := x_tb (k := 573) (by decide +kernel) rfl
theorem lk_572 : Cond.instanceMethod yX5_read ∈ x_TB := x_tb (k := 572) (by decide +kernel) rfl
theorem lk_215 : Cond.fieldLink RX8 197 RX5 "fault" "I" ∈ x_TB := x_tb (k := 215) (by decide +kernel) rfl
theorem lk_217 : Cond.fieldLink RX8 200 RX5 "over" "LWhatDidYouSay$Room;" ∈ x_TB := x_tb (k := 217) (by decide +kernel) rfl
theorem lk_722 : Cond.methodLink RX8 203 yX4_becomeLike ∈ x_TB := x_tb (k := 722) (by decide +kernel) rfl
abbrev m_X8_room : XU := (yX8_room, cX8_room, 4, (some .int))
theorem cn_X8_room : m_X8_room.1.cls ≠ "java/lang/invoke/MethodHandle" ∧ m_X8_room.1.cls ≠ "java/lang/invoke/VarHandle" ∧ (parseMethodDescriptor m_X8_room.1.desc).map (fun q => q.parameters.length) = some 1 := by decide +kernel
def f_X8_room_c30 (v0 : Nat) (s0 : Int32) (M : XM) : Option (Int32 × XM) :=
  if x_tag M v0 = 8 + 10 then (if x_tag M (x_r M v0 3) = 5 + 10 then (x_lt (x_wi M v0 4 (x_i M (x_r M v0 3) 0)) (fun M14 => if (x_i M14 v0 4) = (-1 : Int32) then (if x_tag M14 (x_r M14 v0 3) = 5 + 10 then (if x_tag M14 (x_r M14 v0 0) = 4 + 10 then (x_bv (f_X4_becomeLike (x_r M14 v0 0) (x_r M14 (x_r M14 v0 3) 1) M14) (fun M21 => some (s0, M21))) else none) else none) else (x_bd (f_X8_refuse v0 (-6 : Int32) M14) (fun r25 M24 => some (r25, M24))))) else none) else none
set_option maxRecDepth 20000 in
set_option maxHeartbeats 4000000 in
theorem t_X8_room_c30 (l : Launch) {v0 : Nat} {s0 : Int32} {M : XM} {q : Int32 × XM} (H : f_X8_room_c30 v0 s0 M = some q) : AW l m_X8_room 9 0 0 (x_Ri q) 0 0 33 [some (.ref v0), none, none, none] [(.int s0)] M := by
  unfold f_X8_room_c30 at H
  refine x_istore_n 33 3 [some (.ref v0), none, none, some (.int s0)] dX8_room_33 rfl rfl (Nat.le_of_ble_eq_true rfl) rfl ?_
  refine x_aload_n 34 0 dX8_room_34 rfl rfl ?_
  refine x_aload_n 35 0 dX8_room_35 rfl rfl ?_
  obtain ⟨h12, H⟩ := x_ckp H
  refine x_getf 36 22 8 3 (.ref (x_r M v0 3)) dX8_room_36 lk_363 (by decide) (by decide) rfl (fun _ => rfl) h12 ?_
  obtain ⟨h13, H⟩ := x_ckp H
  refine x_getf 39 197 5 0 (.int (x_i M (x_r M v0 3) 0)) dX8_room_39 lk_215 (by decide) (by decide) rfl (fun _ => rfl) h13 ?_
  obtain ⟨M14, w15, H⟩ := x_lt_of H
  have h16 : x_tag M14 v0 = 8 + 10 := by rw [w15]; exact h12
  have h17 : x_tag M14 (x_r M v0 3) = 5 + 10 := by rw [w15]; exact h13
  refine x_putI' 42 26 8 4 dX8_room_42 lk_364 (by decide) (by decide) rfl (Or.inl rfl) (Or.inl rfl) h12 w15 ?_
  refine x_aload_n 45 0 dX8_room_45 rfl rfl ?_
  refine x_getf 46 26 8 4 (.int (x_i M14 v0 4)) dX8_room_46 lk_364 (by decide) (by decide) rfl (fun _ => rfl) h16 ?_
  refine x_iconst 49 (-1 : Int32) dX8_room_49 (by decide) ?_
  refine x_icmp_eq 50 60 dX8_room_50 (by decide) (fun c18 => ?_) (fun c18 => ?_)
  · replace H := x_ifp c18 H
    refine x_aload_n 60 0 dX8_room_60 rfl rfl ?_
    refine x_getf 61 10 8 0 (.ref (x_r M14 v0 0)) dX8_room_61 lk_360 (by decide) (by decide) rfl (fun _ => rfl) h16 ?_
    refine x_aload_n 64 0 dX8_room_64 rfl rfl ?_
    refine x_getf 65 22 8 3 (.ref (x_r M14 v0 3)) dX8_room_65 lk_363 (by decide) (by decide) rfl (fun _ => rfl) h16 ?_
    obtain ⟨h19, H⟩ := x_ckp H
    refine x_getf 68 200 5 1 (.ref (x_r M14 (x_r M14 v0 3) 1)) dX8_room_68 lk_217 (by decide) (by decide) rfl (fun _ => rfl) h19 ?_
    obtain ⟨h20, H⟩ := x_ckp H
    obtain ⟨M21, e23, H⟩ := x_bv_of H
    refine x_callV 71 203 4 [(.ref (x_r M14 (x_r M14 v0 3) 1))] [] dX8_room_71 (ct_X4_becomeLike l e23) lk_722 lk_576 lk_577 (by decide) h20 lk_86 lk_578 ⟨cn_X4_becomeLike, (by decide), by decide⟩ rfl (Nat.le_of_ble_eq_true rfl) (Nat.le_of_ble_eq_true rfl) (Nat.le_of_ble_eq_true rfl) (x_rv ?_)
    refine x_iload_n 74 3 dX8_room_74 rfl rfl ?_
    cases H
    exact x_iret 75 dX8_room_75 .int rfl rfl (Nat.le_of_ble_eq_true rfl) (Nat.le_of_ble_eq_true rfl) ⟨rfl, rfl⟩
  · replace H := x_ifn c18 H
    refine x_aload_n 53 0 dX8_room_53 rfl rfl ?_
    refine x_bipush 54 (-6 : Int32) dX8_room_54 (by decide) ?_
    obtain ⟨r25, M24, e26, H⟩ := x_bd_of H
    refine x_callV 56 86 8 [(.int (-6 : Int32))] [] dX8_room_56 (ct_X8_refuse l e26) lk_410 lk_412 lk_0 (by decide) h16 lk_85 lk_413 ⟨cn_X8_refuse, (by decide), by decide⟩ rfl (Nat.le_of_ble_eq_true rfl) (Nat.le_of_ble_eq_true rfl) (Nat.le_of_ble_eq_true rfl) (x_ri ?_)
    cases H
    exact x_iret 59 dX8_room_59 .int rfl rfl (Nat.le_of_ble_eq_true rfl) (Nat.le_of_ble_eq_true rfl) ⟨rfl, rfl⟩

def f_X8_room_c2 (v0 : Nat) (v1 : Int32) (s0 : Int32) (M : XM) : Option (Int32 × XM) :=
  if s0 = 0 then (if x_tag M v0 = 8 + 10 then (if x_at M (x_r M v0 5) 4 v1 = true then (if x_tag M (x_r M v0 3) = 5 + 10 then (x_bd (f_X5_read (x_r M v0 3) (x_r M (x_r M v0 5) v1.toNatClampNeg) (x_r M v0 0) M) (f_X8_room_c30 v0)) else none) else none) else none) else (if x_tag M v0 = 8 + 10 then (x_bd (f_X8_refuse v0 s0 M) (fun r29 M28 => some (r29, M28))) else none)
set_option maxRecDepth 20000 in
set_option maxHeartbeats 4000000 in
theorem t_X8_room_c2 (l : Launch) {v0 : Nat} {v1 : Int32} {s0 : Int32} {M : XM} {q : Int32 × XM} (H : f_X8_room_c2 v0 v1 s0 M = some q) : AW l m_X8_room 9 0 0 (x_Ri q) 0 0 5 [some (.ref v0), some (.int v1), none, none] [(.int s0)] M := by
  unfold f_X8_room_c2 at H
  refine x_istore_n 5 2 [some (.ref v0), some (.int v1), some (.int s0), none] dX8_room_5 rfl rfl (Nat.le_of_ble_eq_true rfl) rfl ?_
  refine x_iload_n 6 2 dX8_room_6 rfl rfl ?_
  refine x_if_eq 7 16 dX8_room_7 (by decide) (fun c5 => ?_) (fun c5 => ?_)
  · replace H := x_ifp c5 H
    refine x_aload_n 16 0 dX8_room_16 rfl rfl ?_
    obtain ⟨h6, H⟩ := x_ckp H
    refine x_getf 17 22 8 3 (.ref (x_r M v0 3)) dX8_room_17 lk_363 (by decide) (by decide) rfl (fun _ => rfl) h6 ?_
    refine x_aload_n 20 0 dX8_room_20 rfl rfl ?_
    refine x_getf 21 32 8 5 (.ref (x_r M v0 5)) dX8_room_21 lk_365 (by decide) (by decide) rfl (fun _ => rfl) h6 ?_
    refine x_iload_n 24 1 dX8_room_24 rfl rfl ?_
    obtain ⟨h7, H⟩ := x_ckp H
    refine x_aald4 25 dX8_room_25 h7 ?_
    refine x_aload_n 26 0 dX8_room_26 rfl rfl ?_
    refine x_getf 27 10 8 0 (.ref (x_r M v0 0)) dX8_room_27 lk_360 (by decide) (by decide) rfl (fun _ => rfl) h6 ?_
    obtain ⟨h8, H⟩ := x_ckp H
    obtain ⟨r10, M9, e11, H⟩ := x_bd_of H
    refine x_callV 30 193 5 [(.ref (x_r M (x_r M v0 5) v1.toNatClampNeg)), (.ref (x_r M v0 0))] [] dX8_room_30 (ct_X5_read l e11) lk_571 lk_572 lk_573 (by decide) h8 lk_88 lk_574 ⟨cn_X5_read, (by decide), by decide⟩ rfl (Nat.le_of_ble_eq_true rfl) (Nat.le_of_ble_eq_true rfl) (Nat.le_of_ble_eq_true rfl) (x_ri ?_)
    exact x_wk (le_s (le_n (le_n (le_s le_0)))) (t_X8_room_c30 l H)
  · replace H := x_ifn c5 H
    refine x_aload_n 10 0 dX8_room_10 rfl rfl ?_
    refine x_iload_n 11 2 dX8_room_11 rfl rfl ?_
    obtain ⟨h27, H⟩ := x_ckp H
    obtain ⟨r29, M28, e30, H⟩ := x_bd_of H
    refine x_callV 12 86 8 [(.int s0)] [] dX8_room_12 (ct_X8_refuse l e30) lk_410 lk_412 lk_0 (by decide) h27 lk_85 lk_413 ⟨cn_X8_refuse, (by decide), by decide⟩ rfl (Nat.le_of_ble_eq_true rfl) (Nat.le_of_ble_eq_true rfl) (Nat.le_of_ble_eq_true rfl) (x_ri ?_)
    cases H
    exact x_iret 15 dX8_room_15 .int rfl rfl (Nat.le_of_ble_eq_true rfl) (Nat.le_of_ble_eq_true rfl) ⟨rfl, rfl⟩

def f_X8_room (v0 : Nat) (v1 : Int32) (M : XM) : Option (Int32 × XM) :=
  if x_tag M v0 = 8 + 10 then (x_bd (f_X8_rowRefusal v0 v1 M) (f_X8_room_c2 v0 v1)) else none
set_option maxRecDepth 20000 in
set_option maxHeartbeats 4000000 in
theorem t_X8_room (l : Launch) {v0 : Nat} {v1 : Int32} {M : XM} {q : Int32 × XM} (H : f_X8_room v0 v1 M = some q) : AW l m_X8_room 9 0 0 (x_Ri q) 0 0 0 [some (.ref v0), some (.int v1), none, none] [] M := by
  unfold f_X8_room at H
  refine x_aload_n 0 0 dX8_room_0 rfl rfl ?_
  refine x_iload_n 1 1 dX8_room_1 rfl rfl ?_
  obtain ⟨h1, H⟩ := x_ckp H
  obtain ⟨r3, M2, e4, H⟩ := x_bd_of H
  refine x_callV 2 94 8 [(.int v1)] [] dX8_room_2 (ct_X8_rowRefusal l e4) lk_425 lk_427 lk_1 (by decide) h1 lk_85 lk_428 ⟨cn_X8_rowRefusal, (by decide), by decide⟩ rfl (Nat.le_of_ble_eq_true rfl) (Nat.le_of_ble_eq_true rfl) (Nat.le_of_ble_eq_true rfl) (x_ri ?_)
  exact t_X8_room_c2 l H

theorem ct_X8_room (l : Launch) {v0 : Nat} {v1 : Int32} {M : XM} {q : Int32 × XM} (H : f_X8_room v0 v1 M = some q) : Ct l m_X8_room 9 0 0 [(.ref v0), (.int v1)] M (x_Ri q) := x_met l m_X8_room 9 0 0 [(.ref v0), (.int v1)] M (x_Ri q) _ rfl rfl (Nat.le_of_ble_eq_true rfl) (t_X8_room l H)
abbrev m_X8_fault : XU := (yX8_fault, cX8_fault, 1, (some .int))
theorem cn_X8_fault : m_X8_fault.1.cls ≠ "java/lang/invoke/MethodHandle" ∧ m_X8_fault.1.cls ≠ "java/lang/invoke/VarHandle" ∧ (parseMethodDescriptor m_X8_fault.1.desc).map (fun q => q.parameters.length) = some 0 := by decide +kernel
def f_X8_fault (v0 : Nat) (M : XM) : Option (Int32 × XM) :=
  if x_tag M v0 = 8 + 10 then (some ((x_i M v0 4), M)) else none
set_option maxRecDepth 20000 in
set_option maxHeartbeats 4000000 in
theorem t_X8_fault (l : Launch) {v0 : Nat} {M : XM} {q : Int32 × XM} (H : f_X8_fault v0 M = some q) : AW l m_X8_fault 1 0 0 (x_Ri q) 0 0 0 [some (.ref v0)] [] M := by
  unfold f_X8_fault at H
  refine x_aload_n 0 0 dX8_fault_0 rfl rfl ?_
  obtain ⟨h1, H⟩ := x_ckp H
  refine x_getf 1 26 8 4 (.int (x_i M v0 4)) dX8_fault_1 lk_364 (by decide) (by decide) rfl (fun _ => rfl) h1 ?_
  cases H
  exact x_iret 4 dX8_fault_4 .int rfl rfl (Nat.le_of_ble_eq_true rfl) (Nat.le_of_ble_eq_true rfl) ⟨rfl, rfl⟩

theorem ct_X8_fault (l : Launch) {v0 : Nat} {M : XM} {q : Int32 × XM} (H : f_X8_fault v0 M = some q) : Ct l m_X8_fault 1 0 0 [(.ref v0)] M (x_Ri q) := x_met l m_X8_fault 1 0 0 [(.ref v0)] M (x_Ri q) _ rfl rfl (Nat.le_of_ble_eq_true rfl) (t_X8_fault l H)
theorem lk_732 : Cond.methodLink RX8 207 yX4_isThrough ∈ x_TB := x_tb (k := 732) (by decide +kernel) rfl
theorem lk_733 : Cond.methodLink RX8 210 yX2_leftAt ∈ x_TB := x_tb (k := 733) (by decide +kernel) rfl
abbrev m_X8_back : XU := (yX8_back, cX8_back, 3, (some .int))
theorem cn_X8_back : m_X8_back.1.cls ≠ "java/lang/invoke/MethodHandle" ∧ m_X8_back.1.cls ≠ "java/lang/invoke/VarHandle" ∧ (parseMethodDescriptor m_X8_back.1.desc).map (fun q => q.parameters.length) = some 1 := by decide +kernel
def f_X8_back_c19 (v0 : Nat) (v1 : Int32) (s0 : Int32) (M : XM) : Option (Int32 × XM) :=
  if s0 = 0 then (if x_tag M v0 = 8 + 10 then (if x_tag M (x_r M v0 0) = 4 + 10 then (if x_at M (x_r M (x_r M v0 0) 0) 3 v1 = true then (if x_tag M (x_r M (x_r M (x_r M v0 0) 0) v1.toNatClampNeg) = 2 + 10 then (x_bd (f_X2_leftAt (x_r M (x_r M (x_r M v0 0) 0) v1.toNatClampNeg) (x_i M (x_r M (x_r M (x_r M v0 0) 0) v1.toNatClampNeg) 2) ((x_i M (x_r M (x_r M (x_r M v0 0) 0) v1.toNatClampNeg) 4) + (1 : Int32)) (x_i M (x_r M v0 0) 3) M) (fun r21 M20 => some (r21, M20))) else none) else none) else none) else none) else (if x_tag M v0 = 8 + 10 then (x_bd (f_X8_refuse v0 (-6 : Int32) M) (fun r25 M24 => some (r25, M24))) else none)
set_option maxRecDepth 20000 in
set_option maxHeartbeats 4000000 in
theorem t_X8_back_c19 (l : Launch) {v0 : Nat} {v1 : Int32} {s0 : Int32} {M : XM} {q : Int32 × XM} (H : f_X8_back_c19 v0 v1 s0 M = some q) : AW l m_X8_back 2 0 0 (x_Ri q) 0 0 22 [some (.ref v0), some (.int v1), none] [(.int s0)] M := by
  unfold f_X8_back_c19 at H
  refine x_if_eq 22 32 dX8_back_22 (by decide) (fun c15 => ?_) (fun c15 => ?_)
  · replace H := x_ifp c15 H
    refine x_aload_n 32 0 dX8_back_32 rfl rfl ?_
    obtain ⟨h16, H⟩ := x_ckp H
    refine x_getf 33 10 8 0 (.ref (x_r M v0 0)) dX8_back_33 lk_360 (by decide) (by decide) rfl (fun _ => rfl) h16 ?_
    obtain ⟨h17, H⟩ := x_ckp H
    refine x_getf 36 144 4 0 (.ref (x_r M (x_r M v0 0) 0)) dX8_back_36 lk_158 (by decide) (by decide) rfl (fun _ => rfl) h17 ?_
    refine x_iload_n 39 1 dX8_back_39 rfl rfl ?_
    obtain ⟨h18, H⟩ := x_ckp H
    refine x_aald3 40 dX8_back_40 h18 ?_
    refine x_astore_n 41 2 [some (.ref v0), some (.int v1), some (.ref (x_r M (x_r M (x_r M v0 0) 0) v1.toNatClampNeg))] dX8_back_41 rfl rfl (Nat.le_of_ble_eq_true rfl) rfl ?_
    refine x_aload_n 42 2 dX8_back_42 rfl rfl ?_
    refine x_aload_n 43 2 dX8_back_43 rfl rfl ?_
    obtain ⟨h19, H⟩ := x_ckp H
    refine x_getf 44 169 2 2 (.int (x_i M (x_r M (x_r M (x_r M v0 0) 0) v1.toNatClampNeg) 2)) dX8_back_44 lk_135 (by decide) (by decide) rfl (fun _ => rfl) h19 ?_
    refine x_aload_n 47 2 dX8_back_47 rfl rfl ?_
    refine x_getf 48 175 2 4 (.int (x_i M (x_r M (x_r M (x_r M v0 0) 0) v1.toNatClampNeg) 4)) dX8_back_48 lk_141 (by decide) (by decide) rfl (fun _ => rfl) h19 ?_
    refine x_iconst 51 (1 : Int32) dX8_back_51 (by decide) ?_
    refine x_iadd 52 dX8_back_52 ?_
    refine x_aload_n 53 0 dX8_back_53 rfl rfl ?_
    refine x_getf 54 10 8 0 (.ref (x_r M v0 0)) dX8_back_54 lk_360 (by decide) (by decide) rfl (fun _ => rfl) h16 ?_
    refine x_getf 57 154 4 3 (.int (x_i M (x_r M v0 0) 3)) dX8_back_57 lk_171 (by decide) (by decide) rfl (fun _ => rfl) h17 ?_
    obtain ⟨r21, M20, e22, H⟩ := x_bd_of H
    refine x_callV 60 210 2 [(.int (x_i M (x_r M (x_r M (x_r M v0 0) 0) v1.toNatClampNeg) 2)), (.int ((x_i M (x_r M (x_r M (x_r M v0 0) 0) v1.toNatClampNeg) 4) + (1 : Int32))), (.int (x_i M (x_r M v0 0) 3))] [] dX8_back_60 (ct_X2_leftAt l e22) lk_733 lk_711 lk_712 (by decide) h19 lk_87 lk_713 ⟨cn_X2_leftAt, (by decide), by decide⟩ rfl (Nat.le_of_ble_eq_true rfl) (Nat.le_of_ble_eq_true rfl) (Nat.le_of_ble_eq_true rfl) (x_ri ?_)
    cases H
    exact x_iret 63 dX8_back_63 .int rfl rfl (Nat.le_of_ble_eq_true rfl) (Nat.le_of_ble_eq_true rfl) ⟨rfl, rfl⟩
  · replace H := x_ifn c15 H
    refine x_aload_n 25 0 dX8_back_25 rfl rfl ?_
    refine x_bipush 26 (-6 : Int32) dX8_back_26 (by decide) ?_
    obtain ⟨h23, H⟩ := x_ckp H
    obtain ⟨r25, M24, e26, H⟩ := x_bd_of H
    refine x_callV 28 86 8 [(.int (-6 : Int32))] [] dX8_back_28 (ct_X8_refuse l e26) lk_410 lk_412 lk_0 (by decide) h23 lk_85 lk_413 ⟨cn_X8_refuse, (by decide), by decide⟩ rfl (Nat.le_of_ble_eq_true rfl) (Nat.le_of_ble_eq_true rfl) (Nat.le_of_ble_eq_true rfl) (x_ri ?_)
    cases H
    exact x_iret 31 dX8_back_31 .int rfl rfl (Nat.le_of_ble_eq_true rfl) (Nat.le_of_ble_eq_true rfl) ⟨rfl, rfl⟩

def f_X8_back_c2 (v0 : Nat) (v1 : Int32) (s0 : Int32) (M : XM) : Option (Int32 × XM) :=
  if s0 = 0 then (if x_tag M v0 = 8 + 10 then (x_bd (f_X8_refuse v0 (-1 : Int32) M) (fun r8 M7 => some (r8, M7))) else none) else (if x_tag M v0 = 8 + 10 then (if x_tag M (x_r M v0 0) = 4 + 10 then (x_bd (f_X4_isThrough (x_r M v0 0) v1 M) (f_X8_back_c19 v0 v1)) else none) else none)
set_option maxRecDepth 20000 in
set_option maxHeartbeats 4000000 in
theorem t_X8_back_c2 (l : Launch) {v0 : Nat} {v1 : Int32} {s0 : Int32} {M : XM} {q : Int32 × XM} (H : f_X8_back_c2 v0 v1 s0 M = some q) : AW l m_X8_back 2 0 0 (x_Ri q) 0 0 5 [some (.ref v0), some (.int v1), none] [(.int s0)] M := by
  unfold f_X8_back_c2 at H
  refine x_if_ne 5 14 dX8_back_5 (by decide) (fun c5 => ?_) (fun c5 => ?_)
  · replace H := x_ifn c5 H
    refine x_aload_n 14 0 dX8_back_14 rfl rfl ?_
    obtain ⟨h10, H⟩ := x_ckp H
    refine x_getf 15 10 8 0 (.ref (x_r M v0 0)) dX8_back_15 lk_360 (by decide) (by decide) rfl (fun _ => rfl) h10 ?_
    refine x_iload_n 18 1 dX8_back_18 rfl rfl ?_
    obtain ⟨h11, H⟩ := x_ckp H
    obtain ⟨r13, M12, e14, H⟩ := x_bd_of H
    refine x_callV 19 207 4 [(.int v1)] [] dX8_back_19 (ct_X4_isThrough l e14) lk_732 lk_698 lk_699 (by decide) h11 lk_86 lk_700 ⟨cn_X4_isThrough, (by decide), by decide⟩ rfl (Nat.le_of_ble_eq_true rfl) (Nat.le_of_ble_eq_true rfl) (Nat.le_of_ble_eq_true rfl) (x_ri ?_)
    exact t_X8_back_c19 l H
  · replace H := x_ifp c5 H
    refine x_aload_n 8 0 dX8_back_8 rfl rfl ?_
    refine x_iconst 9 (-1 : Int32) dX8_back_9 (by decide) ?_
    obtain ⟨h6, H⟩ := x_ckp H
    obtain ⟨r8, M7, e9, H⟩ := x_bd_of H
    refine x_callV 10 86 8 [(.int (-1 : Int32))] [] dX8_back_10 (ct_X8_refuse l e9) lk_410 lk_412 lk_0 (by decide) h6 lk_85 lk_413 ⟨cn_X8_refuse, (by decide), by decide⟩ rfl (Nat.le_of_ble_eq_true rfl) (Nat.le_of_ble_eq_true rfl) (Nat.le_of_ble_eq_true rfl) (x_ri ?_)
    cases H
    exact x_iret 13 dX8_back_13 .int rfl rfl (Nat.le_of_ble_eq_true rfl) (Nat.le_of_ble_eq_true rfl) ⟨rfl, rfl⟩

def f_X8_back (v0 : Nat) (v1 : Int32) (M : XM) : Option (Int32 × XM) :=
  if x_tag M v0 = 8 + 10 then (x_bd (f_X8_isCounter v0 v1 M) (f_X8_back_c2 v0 v1)) else none
set_option maxRecDepth 20000 in
set_option maxHeartbeats 4000000 in
theorem t_X8_back (l : Launch) {v0 : Nat} {v1 : Int32} {M : XM} {q : Int32 × XM} (H : f_X8_back v0 v1 M = some q) : AW l m_X8_back 2 0 0 (x_Ri q) 0 0 0 [some (.ref v0), some (.int v1), none] [] M := by
  unfold f_X8_back at H
  refine x_aload_n 0 0 dX8_back_0 rfl rfl ?_
  refine x_iload_n 1 1 dX8_back_1 rfl rfl ?_
  obtain ⟨h1, H⟩ := x_ckp H
  obtain ⟨r3, M2, e4, H⟩ := x_bd_of H
  refine x_callV 2 123 8 [(.int v1)] [] dX8_back_2 (ct_X8_isCounter l e4) lk_478 lk_480 lk_3 (by decide) h1 lk_85 lk_481 ⟨cn_X8_isCounter, (by decide), by decide⟩ rfl (Nat.le_of_ble_eq_true rfl) (Nat.le_of_ble_eq_true rfl) (Nat.le_of_ble_eq_true rfl) (x_ri ?_)
  exact t_X8_back_c2 l H

theorem ct_X8_back (l : Launch) {v0 : Nat} {v1 : Int32} {M : XM} {q : Int32 × XM} (H : f_X8_back v0 v1 M = some q) : Ct l m_X8_back 2 0 0 [(.ref v0), (.int v1)] M (x_Ri q) := x_met l m_X8_back 2 0 0 [(.ref v0), (.int v1)] M (x_Ri q) _ rfl rfl (Nat.le_of_ble_eq_true rfl) (t_X8_back l H)
theorem lk_750 : Cond.code yX7_begin cX7_begin 6 none ∈ x_TB := x_tb (k := 750) (by decide +kernel) rfl
theorem lk_747 : Cond.methodLink RX8 220 yX7_begin ∈ x_TB := x_tb (k := 747) (by decide +kernel) rfl
theorem lk_749 : Cond.selects RX7 yX7_begin yX7_begin ∈ x_TB := x_tb (k := 749) (by decide +kernel) rfl
theorem lk_748 : Cond.instanceMethod yX7_begin ∈ x_TB := x_tb (k := 748) (by decide +kernel) rfl
theorem lk_243 : Cond.fieldLink RX8 227 RX7 "who" "LWhatDidYouSay$Counter;" ∈ x_TB := x_tb (k := 243) (by decide +kernel) rfl
theorem lk_754 : Cond.methodLink RX8 224 yX7_step ∈ x_TB := x_tb (k := 754) (by decide +kernel) rfl
theorem lk_746 : Cond.methodLink RX8 347 yX6_intAt ∈ x_TB := x_tb (k := 746) (by decide +kernel) rfl
abbrev m_X8_areSeconds : XU := (yX8_areSeconds, cX8_areSeconds, 6, (some .boolean))
theorem cn_X8_areSeconds : m_X8_areSeconds.1.cls ≠ "java/lang/invoke/MethodHandle" ∧ m_X8_areSeconds.1.cls ≠ "java/lang/invoke/VarHandle" ∧ (parseMethodDescriptor m_X8_areSeconds.1.desc).map (fun q => q.parameters.length) = some 2 := by decide +kernel
def f_X8_areSeconds_c27 (κ13 : Nat → Int32 → Int32 → Int32 → Int32 → XM → Option (Int32 × XM)) (v0 : Nat) (v1 : Int32) (v2 : Int32) (v3 : Int32) (v4 : Int32) (s0 : Int32) (M : XM) : Option (Int32 × XM) :=
  if v3 < s0 then (κ13 v0 v1 v2 s0 (v4 + (1 : Int32)) M) else (some ((0 : Int32), M))
set_option maxRecDepth 20000 in
set_option maxHeartbeats 4000000 in
theorem t_X8_areSeconds_c27 (l : Launch) {κ13 : Nat → Int32 → Int32 → Int32 → Int32 → XM → Option (Int32 × XM)} {v0 : Nat} {v1 : Int32} {v2 : Int32} {v3 : Int32} {v4 : Int32} {s0 : Int32} {M : XM} {q : Int32 × XM} (hκ13 : ∀ (v0 : Nat) (v1 : Int32) (v2 : Int32) (v3 : Int32) (v4 : Int32) (M : XM), κ13 v0 v1 v2 v3 v4 M = some q → AW l m_X8_areSeconds 4 0 0 (x_Ri q) 0 0 13 [some (.ref v0), some (.int v1), some (.int v2), some (.int v3), some (.int v4), none] [] M) (H : f_X8_areSeconds_c27 κ13 v0 v1 v2 v3 v4 s0 M = some q) : AW l m_X8_areSeconds 4 0 0 (x_Ri q) 0 0 30 [some (.ref v0), some (.int v1), some (.int v2), some (.int v3), some (.int v4), none] [(.int s0)] M := by
  unfold f_X8_areSeconds_c27 at H
  refine x_istore 30 5 [some (.ref v0), some (.int v1), some (.int v2), some (.int v3), some (.int v4), some (.int s0)] dX8_areSeconds_30 rfl (Nat.le_of_ble_eq_true rfl) rfl ?_
  refine x_iload 32 5 dX8_areSeconds_32 rfl ?_
  refine x_iload_n 34 3 dX8_areSeconds_34 rfl rfl ?_
  refine x_icmp_gt 35 40 dX8_areSeconds_35 (by decide) (fun c9 => ?_) (fun c9 => ?_)
  · replace H := x_ifp c9 H
    refine x_iload 40 5 dX8_areSeconds_40 rfl ?_
    refine x_istore_n 42 3 [some (.ref v0), some (.int v1), some (.int v2), some (.int s0), some (.int v4), some (.int s0)] dX8_areSeconds_42 rfl rfl (Nat.le_of_ble_eq_true rfl) rfl ?_
    refine x_iinc 43 4 (v4 + (1 : Int32)) [some (.ref v0), some (.int v1), some (.int v2), some (.int s0), some (.int (v4 + (1 : Int32))), some (.int s0)] dX8_areSeconds_43 rfl (congrArg (fun z : Int32 => v4 + z) (show Int32.ofInt (1) = (1 : Int32) by decide)) rfl (Nat.le_of_ble_eq_true rfl) rfl ?_
    refine x_goto 46 13 dX8_areSeconds_46 (by decide) ?_
    exact x_wk (le_s (le_s (le_s (le_s (le_s (le_n le_0)))))) (hκ13 _ _ _ _ _ _ H)
  · replace H := x_ifn c9 H
    refine x_iconst 38 (0 : Int32) dX8_areSeconds_38 (by decide) ?_
    cases H
    exact x_iret 39 dX8_areSeconds_39 .boolean rfl rfl (Nat.le_of_ble_eq_true rfl) (Nat.le_of_ble_eq_true rfl) ⟨rfl, rfl⟩

def bd_X8_areSeconds_13 (κ13 : Nat → Int32 → Int32 → Int32 → Int32 → XM → Option (Int32 × XM)) (v0 : Nat) (v1 : Int32) (v2 : Int32) (v3 : Int32) (v4 : Int32) (M : XM) : Option (Int32 × XM) :=
  if v2 ≤ v4 then (some ((1 : Int32), M)) else (if x_tag M v0 = 8 + 10 then (if x_at M (x_r M v0 5) 4 v1 = true then (if x_tag M (x_r M (x_r M v0 5) v1.toNatClampNeg) = 6 + 10 then (x_bd (f_X6_intAt (x_r M (x_r M v0 5) v1.toNatClampNeg) v4 M) (f_X8_areSeconds_c27 κ13 v0 v1 v2 v3 v4)) else none) else none) else none)
set_option maxRecDepth 20000 in
set_option maxHeartbeats 4000000 in
theorem tb_X8_areSeconds_13 (l : Launch) {κ13 : Nat → Int32 → Int32 → Int32 → Int32 → XM → Option (Int32 × XM)} {v0 : Nat} {v1 : Int32} {v2 : Int32} {v3 : Int32} {v4 : Int32} {M : XM} {q : Int32 × XM} (hκ13 : ∀ (v0 : Nat) (v1 : Int32) (v2 : Int32) (v3 : Int32) (v4 : Int32) (M : XM), κ13 v0 v1 v2 v3 v4 M = some q → AW l m_X8_areSeconds 4 0 0 (x_Ri q) 0 0 13 [some (.ref v0), some (.int v1), some (.int v2), some (.int v3), some (.int v4), none] [] M) (H : bd_X8_areSeconds_13 κ13 v0 v1 v2 v3 v4 M = some q) : AW l m_X8_areSeconds 4 0 0 (x_Ri q) 0 0 13 [some (.ref v0), some (.int v1), some (.int v2), some (.int v3), some (.int v4), none] [] M := by
  unfold bd_X8_areSeconds_13 at H
  refine x_iload 13 4 dX8_areSeconds_13 rfl ?_
  refine x_iload_n 15 2 dX8_areSeconds_15 rfl rfl ?_
  refine x_icmp_ge 16 49 dX8_areSeconds_16 (by decide) (fun c2 => ?_) (fun c2 => ?_)
  · replace H := x_ifp c2 H
    refine x_iconst 49 (1 : Int32) dX8_areSeconds_49 (by decide) ?_
    cases H
    exact x_iret 50 dX8_areSeconds_50 .boolean rfl rfl (Nat.le_of_ble_eq_true rfl) (Nat.le_of_ble_eq_true rfl) ⟨rfl, rfl⟩
  · replace H := x_ifn c2 H
    refine x_aload_n 19 0 dX8_areSeconds_19 rfl rfl ?_
    obtain ⟨h3, H⟩ := x_ckp H
    refine x_getf 20 32 8 5 (.ref (x_r M v0 5)) dX8_areSeconds_20 lk_365 (by decide) (by decide) rfl (fun _ => rfl) h3 ?_
    refine x_iload_n 23 1 dX8_areSeconds_23 rfl rfl ?_
    obtain ⟨h4, H⟩ := x_ckp H
    refine x_aald4 24 dX8_areSeconds_24 h4 ?_
    refine x_iload 25 4 dX8_areSeconds_25 rfl ?_
    obtain ⟨h5, H⟩ := x_ckp H
    obtain ⟨r7, M6, e8, H⟩ := x_bd_of H
    refine x_callV 27 347 6 [(.int v4)] [] dX8_areSeconds_27 (ct_X6_intAt l e8) lk_746 lk_585 lk_586 (by decide) h5 lk_93 lk_587 ⟨cn_X6_intAt, (by decide), by decide⟩ rfl (Nat.le_of_ble_eq_true rfl) (Nat.le_of_ble_eq_true rfl) (Nat.le_of_ble_eq_true rfl) (x_ri ?_)
    exact t_X8_areSeconds_c27 l hκ13 H

def lp_X8_areSeconds_13 (n : Nat) : Nat → Int32 → Int32 → Int32 → Int32 → XM → Option (Int32 × XM) := x_rec (fun _ _ _ _ _ _ => none) (bd_X8_areSeconds_13) n
theorem t_X8_areSeconds_13 (l : Launch) {q : Int32 × XM} : ∀ (n : Nat) (v0 : Nat) (v1 : Int32) (v2 : Int32) (v3 : Int32) (v4 : Int32) (M : XM), lp_X8_areSeconds_13 n v0 v1 v2 v3 v4 M = some q → AW l m_X8_areSeconds 4 0 0 (x_Ri q) 0 0 13 [some (.ref v0), some (.int v1), some (.int v2), some (.int v3), some (.int v4), none] [] M := by
  intro n
  induction n with
  | zero => intro v0 v1 v2 v3 v4 M H; cases H
  | succ n ih => intro v0 v1 v2 v3 v4 M H; exact tb_X8_areSeconds_13 l ih H
def f_X8_areSeconds (v0 : Nat) (v1 : Int32) (v2 : Int32) (M : XM) : Option (Int32 × XM) :=
  if v2 ≤ (40 : Int32) then (lp_X8_areSeconds_13 x_fuel v0 v1 v2 (0 : Int32) (0 : Int32) M) else (some ((0 : Int32), M))
set_option maxRecDepth 20000 in
set_option maxHeartbeats 4000000 in
theorem t_X8_areSeconds (l : Launch) {v0 : Nat} {v1 : Int32} {v2 : Int32} {M : XM} {q : Int32 × XM} (H : f_X8_areSeconds v0 v1 v2 M = some q) : AW l m_X8_areSeconds 4 0 0 (x_Ri q) 0 0 0 [some (.ref v0), some (.int v1), some (.int v2), none, none, none] [] M := by
  unfold f_X8_areSeconds at H
  refine x_iload_n 0 2 dX8_areSeconds_0 rfl rfl ?_
  refine x_bipush 1 (40 : Int32) dX8_areSeconds_1 (by decide) ?_
  refine x_icmp_le 3 8 dX8_areSeconds_3 (by decide) (fun c1 => ?_) (fun c1 => ?_)
  · replace H := x_ifp c1 H
    refine x_iconst 8 (0 : Int32) dX8_areSeconds_8 (by decide) ?_
    refine x_istore_n 9 3 [some (.ref v0), some (.int v1), some (.int v2), some (.int (0 : Int32)), none, none] dX8_areSeconds_9 rfl rfl (Nat.le_of_ble_eq_true rfl) rfl ?_
    refine x_iconst 10 (0 : Int32) dX8_areSeconds_10 (by decide) ?_
    refine x_istore 11 4 [some (.ref v0), some (.int v1), some (.int v2), some (.int (0 : Int32)), some (.int (0 : Int32)), none] dX8_areSeconds_11 rfl (Nat.le_of_ble_eq_true rfl) rfl ?_
    exact t_X8_areSeconds_13 l _ _ _ _ _ _ _ H
  · replace H := x_ifn c1 H
    refine x_iconst 6 (0 : Int32) dX8_areSeconds_6 (by decide) ?_
    cases H
    exact x_iret 7 dX8_areSeconds_7 .boolean rfl rfl (Nat.le_of_ble_eq_true rfl) (Nat.le_of_ble_eq_true rfl) ⟨rfl, rfl⟩

theorem ct_X8_areSeconds (l : Launch) {v0 : Nat} {v1 : Int32} {v2 : Int32} {M : XM} {q : Int32 × XM} (H : f_X8_areSeconds v0 v1 v2 M = some q) : Ct l m_X8_areSeconds 4 0 0 [(.ref v0), (.int v1), (.int v2)] M (x_Ri q) := x_met l m_X8_areSeconds 4 0 0 [(.ref v0), (.int v1), (.int v2)] M (x_Ri q) _ rfl rfl (Nat.le_of_ble_eq_true rfl) (t_X8_areSeconds l H)
theorem lk_745 : Cond.code yX8_areSeconds cX8_areSeconds 6 (some .boolean) ∈ x_TB := x_tb (k := 745) (by decide +kernel) rfl
theorem lk_742 : Cond.methodLink RX8 217 yX8_areSeconds ∈ x_TB := x_tb (k := 742) (by decide +kernel) rfl
theorem lk_16 : Cond.selects RX8 yX8_areSeconds yX8_areSeconds ∈ x_TB := x_tb (k := 16) (by decide +kernel) rfl
theorem lk_744 : Cond.instanceMethod yX8_areSeconds ∈ x_TB := x_tb (k := 744) (by decide +kernel) rfl
theorem lk_348 : Cond.fieldLink RX8 276 RX6 "length" "I" ∈ x_TB := x_tb (k := 348) (by decide +kernel) rfl
abbrev m_X8_partRefusal : XU := (yX8_partRefusal, cX8_partRefusal, 4, (some .int))
theorem cn_X8_partRefusal : m_X8_partRefusal.1.cls ≠ "java/lang/invoke/MethodHandle" ∧ m_X8_partRefusal.1.cls ≠ "java/lang/invoke/VarHandle" ∧ (parseMethodDescriptor m_X8_partRefusal.1.desc).map (fun q => q.parameters.length) = some 2 := by decide +kernel
def f_X8_partRefusal_c2 (v0 : Nat) (v1 : Int32) (v2 : Int32) (s0 : Int32) (M : XM) : Option (Int32 × XM) :=
  if s0 = 0 then (if (0 : Int32) ≤ v2 then (if x_tag M v0 = 8 + 10 then (if x_at M (x_r M v0 5) 4 v1 = true then (if x_tag M (x_r M (x_r M v0 5) v1.toNatClampNeg) = 6 + 10 then (if v2 ≤ (x_i M (x_r M (x_r M v0 5) v1.toNatClampNeg) 2) then (some ((0 : Int32), M)) else (some ((-5 : Int32), M))) else none) else none) else none) else (some ((-4 : Int32), M))) else (some (s0, M))
set_option maxRecDepth 20000 in
set_option maxHeartbeats 4000000 in
theorem t_X8_partRefusal_c2 (l : Launch) {v0 : Nat} {v1 : Int32} {v2 : Int32} {s0 : Int32} {M : XM} {q : Int32 × XM} (H : f_X8_partRefusal_c2 v0 v1 v2 s0 M = some q) : AW l m_X8_partRefusal 4 0 0 (x_Ri q) 0 0 5 [some (.ref v0), some (.int v1), some (.int v2), none] [(.int s0)] M := by
  unfold f_X8_partRefusal_c2 at H
  refine x_istore_n 5 3 [some (.ref v0), some (.int v1), some (.int v2), some (.int s0)] dX8_partRefusal_5 rfl rfl (Nat.le_of_ble_eq_true rfl) rfl ?_
  refine x_iload_n 6 3 dX8_partRefusal_6 rfl rfl ?_
  refine x_if_eq 7 12 dX8_partRefusal_7 (by decide) (fun c5 => ?_) (fun c5 => ?_)
  · replace H := x_ifp c5 H
    refine x_iload_n 12 2 dX8_partRefusal_12 rfl rfl ?_
    refine x_if_ge 13 19 dX8_partRefusal_13 (by decide) (fun c6 => ?_) (fun c6 => ?_)
    · replace H := x_ifp c6 H
      refine x_iload_n 19 2 dX8_partRefusal_19 rfl rfl ?_
      refine x_aload_n 20 0 dX8_partRefusal_20 rfl rfl ?_
      obtain ⟨h7, H⟩ := x_ckp H
      refine x_getf 21 32 8 5 (.ref (x_r M v0 5)) dX8_partRefusal_21 lk_365 (by decide) (by decide) rfl (fun _ => rfl) h7 ?_
      refine x_iload_n 24 1 dX8_partRefusal_24 rfl rfl ?_
      obtain ⟨h8, H⟩ := x_ckp H
      refine x_aald4 25 dX8_partRefusal_25 h8 ?_
      obtain ⟨h9, H⟩ := x_ckp H
      refine x_getf 26 276 6 2 (.int (x_i M (x_r M (x_r M v0 5) v1.toNatClampNeg) 2)) dX8_partRefusal_26 lk_348 (by decide) (by decide) rfl (fun _ => rfl) h9 ?_
      refine x_icmp_le 29 37 dX8_partRefusal_29 (by decide) (fun c10 => ?_) (fun c10 => ?_)
      · replace H := x_ifp c10 H
        refine x_iconst 37 (0 : Int32) dX8_partRefusal_37 (by decide) ?_
        cases H
        exact x_iret 38 dX8_partRefusal_38 .int rfl rfl (Nat.le_of_ble_eq_true rfl) (Nat.le_of_ble_eq_true rfl) ⟨rfl, rfl⟩
      · replace H := x_ifn c10 H
        refine x_bipush 32 (-5 : Int32) dX8_partRefusal_32 (by decide) ?_
        refine x_goto 34 38 dX8_partRefusal_34 (by decide) ?_
        cases H
        exact x_iret 38 dX8_partRefusal_38 .int rfl rfl (Nat.le_of_ble_eq_true rfl) (Nat.le_of_ble_eq_true rfl) ⟨rfl, rfl⟩
    · replace H := x_ifn c6 H
      refine x_bipush 16 (-4 : Int32) dX8_partRefusal_16 (by decide) ?_
      cases H
      exact x_iret 18 dX8_partRefusal_18 .int rfl rfl (Nat.le_of_ble_eq_true rfl) (Nat.le_of_ble_eq_true rfl) ⟨rfl, rfl⟩
  · replace H := x_ifn c5 H
    refine x_iload_n 10 3 dX8_partRefusal_10 rfl rfl ?_
    cases H
    exact x_iret 11 dX8_partRefusal_11 .int rfl rfl (Nat.le_of_ble_eq_true rfl) (Nat.le_of_ble_eq_true rfl) ⟨rfl, rfl⟩

def f_X8_partRefusal (v0 : Nat) (v1 : Int32) (v2 : Int32) (M : XM) : Option (Int32 × XM) :=
  if x_tag M v0 = 8 + 10 then (x_bd (f_X8_rowRefusal v0 v1 M) (f_X8_partRefusal_c2 v0 v1 v2)) else none
set_option maxRecDepth 20000 in
set_option maxHeartbeats 4000000 in
theorem t_X8_partRefusal (l : Launch) {v0 : Nat} {v1 : Int32} {v2 : Int32} {M : XM} {q : Int32 × XM} (H : f_X8_partRefusal v0 v1 v2 M = some q) : AW l m_X8_partRefusal 4 0 0 (x_Ri q) 0 0 0 [some (.ref v0), some (.int v1), some (.int v2), none] [] M := by
  unfold f_X8_partRefusal at H
  refine x_aload_n 0 0 dX8_partRefusal_0 rfl rfl ?_
  refine x_iload_n 1 1 dX8_partRefusal_1 rfl rfl ?_
  obtain ⟨h1, H⟩ := x_ckp H
  obtain ⟨r3, M2, e4, H⟩ := x_bd_of H
  refine x_callV 2 94 8 [(.int v1)] [] dX8_partRefusal_2 (ct_X8_rowRefusal l e4) lk_425 lk_427 lk_1 (by decide) h1 lk_85 lk_428 ⟨cn_X8_rowRefusal, (by decide), by decide⟩ rfl (Nat.le_of_ble_eq_true rfl) (Nat.le_of_ble_eq_true rfl) (Nat.le_of_ble_eq_true rfl) (x_ri ?_)
  exact t_X8_partRefusal_c2 l H

theorem ct_X8_partRefusal (l : Launch) {v0 : Nat} {v1 : Int32} {v2 : Int32} {M : XM} {q : Int32 × XM} (H : f_X8_partRefusal v0 v1 v2 M = some q) : Ct l m_X8_partRefusal 4 0 0 [(.ref v0), (.int v1), (.int v2)] M (x_Ri q) := x_met l m_X8_partRefusal 4 0 0 [(.ref v0), (.int v1), (.int v2)] M (x_Ri q) _ rfl rfl (Nat.le_of_ble_eq_true rfl) (t_X8_partRefusal l H)
