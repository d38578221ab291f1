abbrev m_X8_restore : XU := (yX8_restore, cX8_restore, 2, (some .int))
theorem cn_X8_restore : m_X8_restore.1.cls ≠ "java/lang/invoke/MethodHandle" ∧ m_X8_restore.1.cls ≠ "java/lang/invoke/VarHandle" ∧ (parseMethodDescriptor m_X8_restore.1.desc).map (fun q => q.parameters.length) = some 0 := by decide +kernel
def f_X8_restore_65 (κ27 : Nat → Int32 → XM → Option (Int32 × XM)) (v0 : Nat) (v1 : Int32) (M : XM) : Option (Int32 × XM) :=
  κ27 v0 (v1 + (1 : Int32)) M
set_option maxRecDepth 20000 in
set_option maxHeartbeats 4000000 in
theorem t_X8_restore_65 (l : Launch) {κ27 : Nat → Int32 → XM → Option (Int32 × XM)} {v0 : Nat} {v1 : Int32} {M : XM} {q : Int32 × XM} (hκ27 : ∀ (v0 : Nat) (v1 : Int32) (M : XM), κ27 v0 v1 M = some q → AW l m_X8_restore 3 0 0 (x_Ri q) 0 0 27 [some (.ref v0), some (.int v1)] [] M) (H : f_X8_restore_65 κ27 v0 v1 M = some q) : AW l m_X8_restore 3 0 0 (x_Ri q) 0 0 65 [some (.ref v0), some (.int v1)] [] M := by
  unfold f_X8_restore_65 at H
  refine x_iinc 65 1 (v1 + (1 : Int32)) [some (.ref v0), some (.int (v1 + (1 : Int32)))] dX8_restore_65 rfl (congrArg (fun z : Int32 => v1 + z) (show Int32.ofInt (1) = (1 : Int32) by decide)) rfl (Nat.le_of_ble_eq_true rfl) rfl ?_
  refine x_goto 68 27 dX8_restore_68 (by decide) ?_
  exact hκ27 _ _ _ H

def f_X8_restore_c62 (κ27 : Nat → Int32 → XM → Option (Int32 × XM)) (v0 : Nat) (v1 : Int32) (M : XM) : Option (Int32 × XM) :=
  f_X8_restore_65 κ27 v0 v1 M
set_option maxRecDepth 20000 in
set_option maxHeartbeats 4000000 in
theorem t_X8_restore_c62 (l : Launch) {κ27 : Nat → Int32 → XM → Option (Int32 × XM)} {v0 : Nat} {v1 : Int32} {M : XM} {q : Int32 × XM} (hκ27 : ∀ (v0 : Nat) (v1 : Int32) (M : XM), κ27 v0 v1 M = some q → AW l m_X8_restore 3 0 0 (x_Ri q) 0 0 27 [some (.ref v0), some (.int v1)] [] M) (H : f_X8_restore_c62 κ27 v0 v1 M = some q) : AW l m_X8_restore 3 0 0 (x_Ri q) 0 0 65 [some (.ref v0), some (.int v1)] [] M := by
  unfold f_X8_restore_c62 at H
  exact t_X8_restore_65 l hκ27 H

def bd_X8_restore_27 (κ27 : Nat → Int32 → XM → Option (Int32 × XM)) (v0 : Nat) (v1 : Int32) (M : XM) : Option (Int32 × XM) :=
  if x_tag M v0 = 8 + 10 then (if x_tag M (x_r M v0 5) = 4 then (if (Int32.ofNat (x_len M (x_r M v0 5))) ≤ v1 then (if x_tag M (x_r M v0 0) = 4 + 10 then (some ((x_i M (x_r M v0 0) 1), M)) else none) else (if x_at M (x_r M v0 5) 4 v1 = true then (if x_tag M (x_r M (x_r M v0 5) v1.toNatClampNeg) = 6 + 10 then (if x_tag M (x_r M v0 0) = 4 + 10 then (if (x_i M (x_r M (x_r M v0 5) v1.toNatClampNeg) 0) < (x_i M (x_r M v0 0) 1) then (f_X8_restore_65 κ27 v0 v1 M) else (x_bv (f_X6_holdCounter (x_r M (x_r M v0 5) v1.toNatClampNeg) (-1 : Int32) M) (f_X8_restore_c62 κ27 v0 v1))) else none) else none) else none)) else none) else none
set_option maxRecDepth 20000 in
set_option maxHeartbeats 4000000 in
theorem tb_X8_restore_27 (l : Launch) {κ27 : Nat → Int32 → XM → Option (Int32 × XM)} {v0 : Nat} {v1 : Int32} {M : XM} {q : Int32 × XM} (hκ27 : ∀ (v0 : Nat) (v1 : Int32) (M : XM), κ27 v0 v1 M = some q → AW l m_X8_restore 3 0 0 (x_Ri q) 0 0 27 [some (.ref v0), some (.int v1)] [] M) (H : bd_X8_restore_27 κ27 v0 v1 M = some q) : AW l m_X8_restore 3 0 0 (x_Ri q) 0 0 27 [some (.ref v0), some (.int v1)] [] M := by
  unfold bd_X8_restore_27 at H
  refine x_iload_n 27 1 dX8_restore_27 rfl rfl ?_
  refine x_aload_n 28 0 dX8_restore_28 rfl rfl ?_
  obtain ⟨h10, H⟩ := x_ckp H
  refine x_getf 29 32 8 5 (.ref (x_r M v0 5)) dX8_restore_29 lk_365 (by decide) (by decide) rfl (fun _ => rfl) h10 ?_
  obtain ⟨h11, H⟩ := x_ckp H
  refine x_alen 32 4 dX8_restore_32 h11 (by decide) ?_
  refine x_icmp_ge 33 71 dX8_restore_33 (by decide) (fun c12 => ?_) (fun c12 => ?_)
  · replace H := x_ifp c12 H
    refine x_aload_n 71 0 dX8_restore_71 rfl rfl ?_
    refine x_getf 72 10 8 0 (.ref (x_r M v0 0)) dX8_restore_72 lk_360 (by decide) (by decide) rfl (fun _ => rfl) h10 ?_
    obtain ⟨h13, H⟩ := x_ckp H
    refine x_getf 75 273 4 1 (.int (x_i M (x_r M v0 0) 1)) dX8_restore_75 lk_161 (by decide) (by decide) rfl (fun _ => rfl) h13 ?_
    cases H
    exact x_iret 78 dX8_restore_78 .int rfl rfl (Nat.le_of_ble_eq_true rfl) (Nat.le_of_ble_eq_true rfl) ⟨rfl, rfl⟩
  · replace H := x_ifn c12 H
    refine x_aload_n 36 0 dX8_restore_36 rfl rfl ?_
    refine x_getf 37 32 8 5 (.ref (x_r M v0 5)) dX8_restore_37 lk_365 (by decide) (by decide) rfl (fun _ => rfl) h10 ?_
    refine x_iload_n 40 1 dX8_restore_40 rfl rfl ?_
    obtain ⟨h14, H⟩ := x_ckp H
    refine x_aald4 41 dX8_restore_41 h14 ?_
    obtain ⟨h15, H⟩ := x_ckp H
    refine x_getf 42 141 6 0 (.int (x_i M (x_r M (x_r M v0 5) v1.toNatClampNeg) 0)) dX8_restore_42 lk_343 (by decide) (by decide) rfl (fun _ => rfl) h15 ?_
    refine x_aload_n 45 0 dX8_restore_45 rfl rfl ?_
    refine x_getf 46 10 8 0 (.ref (x_r M v0 0)) dX8_restore_46 lk_360 (by decide) (by decide) rfl (fun _ => rfl) h10 ?_
    obtain ⟨h16, H⟩ := x_ckp H
    refine x_getf 49 273 4 1 (.int (x_i M (x_r M v0 0) 1)) dX8_restore_49 lk_161 (by decide) (by decide) rfl (fun _ => rfl) h16 ?_
    refine x_icmp_lt 52 65 dX8_restore_52 (by decide) (fun c17 => ?_) (fun c17 => ?_)
    · replace H := x_ifp c17 H
      exact t_X8_restore_65 l hκ27 H
    · replace H := x_ifn c17 H
      refine x_aload_n 55 0 dX8_restore_55 rfl rfl ?_
      refine x_getf 56 32 8 5 (.ref (x_r M v0 5)) dX8_restore_56 lk_365 (by decide) (by decide) rfl (fun _ => rfl) h10 ?_
      refine x_iload_n 59 1 dX8_restore_59 rfl rfl ?_
      refine x_aald4 60 dX8_restore_60 h14 ?_
      refine x_iconst 61 (-1 : Int32) dX8_restore_61 (by decide) ?_
      obtain ⟨M18, e20, H⟩ := x_bv_of H
      refine x_callV 62 126 6 [(.int (-1 : Int32))] [] dX8_restore_62 (ct_X6_holdCounter l e20) lk_482 lk_483 lk_484 (by decide) h15 lk_93 lk_485 ⟨cn_X6_holdCounter, (by decide), by decide⟩ rfl (Nat.le_of_ble_eq_true rfl) (Nat.le_of_ble_eq_true rfl) (Nat.le_of_ble_eq_true rfl) (x_rv ?_)
      exact t_X8_restore_c62 l hκ27 H

def lp_X8_restore_27 (n : Nat) : Nat → Int32 → XM → Option (Int32 × XM) := x_rec (fun _ _ _ => none) (bd_X8_restore_27) n
theorem t_X8_restore_27 (l : Launch) {q : Int32 × XM} : ∀ (n : Nat) (v0 : Nat) (v1 : Int32) (M : XM), lp_X8_restore_27 n v0 v1 M = some q → AW l m_X8_restore 3 0 0 (x_Ri q) 0 0 27 [some (.ref v0), some (.int v1)] [] M := by
  intro n
  induction n with
  | zero => intro v0 v1 M H; cases H
  | succ n ih => intro v0 v1 M H; exact tb_X8_restore_27 l ih H
def f_X8_restore_c22 (v0 : Nat) (M : XM) : Option (Int32 × XM) :=
  lp_X8_restore_27 x_fuel v0 (0 : Int32) M
set_option maxRecDepth 20000 in
set_option maxHeartbeats 4000000 in
theorem t_X8_restore_c22 (l : Launch) {v0 : Nat} {M : XM} {q : Int32 × XM} (H : f_X8_restore_c22 v0 M = some q) : AW l m_X8_restore 3 0 0 (x_Ri q) 0 0 25 [some (.ref v0), none] [] M := by
  unfold f_X8_restore_c22 at H
  refine x_iconst 25 (0 : Int32) dX8_restore_25 (by decide) ?_
  refine x_istore_n 26 1 [some (.ref v0), some (.int (0 : Int32))] dX8_restore_26 rfl rfl (Nat.le_of_ble_eq_true rfl) rfl ?_
  exact t_X8_restore_27 l _ _ _ _ H

def f_X8_restore (v0 : Nat) (M : XM) : Option (Int32 × XM) :=
  if x_tag M v0 = 8 + 10 then (if (x_i M v0 2) = 0 then (x_bd (f_X8_refuse v0 (-6 : Int32) M) (fun r4 M3 => some (r4, M3))) else (if x_tag M (x_r M v0 0) = 4 + 10 then (x_bv (f_X4_becomeLike (x_r M v0 0) (x_r M v0 1) M) (f_X8_restore_c22 v0)) else none)) else none
set_option maxRecDepth 20000 in
set_option maxHeartbeats 4000000 in
theorem t_X8_restore (l : Launch) {v0 : Nat} {M : XM} {q : Int32 × XM} (H : f_X8_restore v0 M = some q) : AW l m_X8_restore 3 0 0 (x_Ri q) 0 0 0 [some (.ref v0), none] [] M := by
  unfold f_X8_restore at H
  refine x_aload_n 0 0 dX8_restore_0 rfl rfl ?_
  obtain ⟨h1, H⟩ := x_ckp H
  refine x_getf 1 330 8 2 (.int (x_i M v0 2)) dX8_restore_1 lk_362 (by decide) (by decide) rfl (fun _ => rfl) h1 ?_
  refine x_if_ne 4 14 dX8_restore_4 (by decide) (fun c2 => ?_) (fun c2 => ?_)
  · replace H := x_ifn c2 H
    refine x_aload_n 14 0 dX8_restore_14 rfl rfl ?_
    refine x_getf 15 10 8 0 (.ref (x_r M v0 0)) dX8_restore_15 lk_360 (by decide) (by decide) rfl (fun _ => rfl) h1 ?_
    refine x_aload_n 18 0 dX8_restore_18 rfl rfl ?_
    refine x_getf 19 16 8 1 (.ref (x_r M v0 1)) dX8_restore_19 lk_361 (by decide) (by decide) rfl (fun _ => rfl) h1 ?_
    obtain ⟨h6, H⟩ := x_ckp H
    obtain ⟨M7, e9, H⟩ := x_bv_of H
    refine x_callV 22 203 4 [(.ref (x_r M v0 1))] [] dX8_restore_22 (ct_X4_becomeLike l e9) lk_722 lk_576 lk_577 (by decide) h6 lk_86 lk_578 ⟨cn_X4_becomeLike, (by decide), by decide⟩ rfl (Nat.le_of_ble_eq_true rfl) (Nat.le_of_ble_eq_true rfl) (Nat.le_of_ble_eq_true rfl) (x_rv ?_)
    exact t_X8_restore_c22 l H
  · replace H := x_ifp c2 H
    refine x_aload_n 7 0 dX8_restore_7 rfl rfl ?_
    refine x_bipush 8 (-6 : Int32) dX8_restore_8 (by decide) ?_
    obtain ⟨r4, M3, e5, H⟩ := x_bd_of H
    refine x_callV 10 86 8 [(.int (-6 : Int32))] [] dX8_restore_10 (ct_X8_refuse l e5) lk_410 lk_412 lk_0 (by decide) h1 lk_85 lk_413 ⟨cn_X8_refuse, (by decide), by decide⟩ rfl (Nat.le_of_ble_eq_true rfl) (Nat.le_of_ble_eq_true rfl) (Nat.le_of_ble_eq_true rfl) (x_ri ?_)
    cases H
    exact x_iret 13 dX8_restore_13 .int rfl rfl (Nat.le_of_ble_eq_true rfl) (Nat.le_of_ble_eq_true rfl) ⟨rfl, rfl⟩

theorem ct_X8_restore (l : Launch) {v0 : Nat} {M : XM} {q : Int32 × XM} (H : f_X8_restore v0 M = some q) : Ct l m_X8_restore 3 0 0 [(.ref v0)] M (x_Ri q) := x_met l m_X8_restore 3 0 0 [(.ref v0)] M (x_Ri q) _ rfl rfl (Nat.le_of_ble_eq_true rfl) (t_X8_restore l H)
theorem lk_1023 : Cond.methodLink RX8 334 yX4_countThrough ∈ x_TB := x_tb (k := 1023) (by decide +kernel) rfl
theorem lk_174 : Cond.fieldLink RX8 337 RX4 "odds" "I" ∈ x_TB := x_tb (k := 174) (by decide +kernel) rfl
theorem lk_321 : Cond.fieldLink RX8 340 RX0 "ran" "I" ∈ x_TB := x_tb (k := 321) (by decide +kernel) rfl
abbrev m_X8_status : XU := (yX8_status, cX8_status, 2, (some .int))
theorem cn_X8_status : m_X8_status.1.cls ≠ "java/lang/invoke/MethodHandle" ∧ m_X8_status.1.cls ≠ "java/lang/invoke/VarHandle" ∧ (parseMethodDescriptor m_X8_status.1.desc).map (fun q => q.parameters.length) = some 1 := by decide +kernel
def f_X8_status_22 (v0 : Nat) (v1 : Int32) (M : XM) : Option (Int32 × XM) :=
  if v1 = (0 : Int32) then (if x_tag M v0 = 8 + 10 then (if x_tag M (x_r M v0 0) = 4 + 10 then (some ((x_i M (x_r M v0 0) 1), M)) else none) else none) else if v1 = (1 : Int32) then (if x_tag M v0 = 8 + 10 then (if x_tag M (x_r M v0 0) = 4 + 10 then (x_bd (f_X4_countThrough (x_r M v0 0) M) (fun r9 M8 => some (r9, M8))) else none) else none) else if v1 = (2 : Int32) then (if x_tag M v0 = 8 + 10 then (if x_tag M (x_r M v0 0) = 4 + 10 then (some ((x_i M (x_r M v0 0) 2), M)) else none) else none) else if v1 = (3 : Int32) then (if x_tag M v0 = 8 + 10 then (if x_tag M (x_r M v0 0) = 4 + 10 then (some ((x_i M (x_r M v0 0) 3), M)) else none) else none) else if v1 = (4 : Int32) then (if x_tag M v0 = 8 + 10 then (if x_tag M (x_r M v0 0) = 4 + 10 then (some ((x_i M (x_r M v0 0) 4), M)) else none) else none) else if v1 = (5 : Int32) then (if x_tag M v0 = 8 + 10 then (if x_tag M (x_r M v0 0) = 4 + 10 then (some ((x_i M (x_r M v0 0) 5), M)) else none) else none) else if v1 = (6 : Int32) then (if x_tag M v0 = 8 + 10 then (if x_tag M (x_r M v0 0) = 4 + 10 then (some ((x_i M (x_r M v0 0) 8), M)) else none) else none) else if v1 = (7 : Int32) then (if x_tag M v0 = 8 + 10 then (if x_tag M (x_r M v0 0) = 4 + 10 then (some ((x_i M (x_r M v0 0) 9), M)) else none) else none) else if v1 = (8 : Int32) then (if x_tag M v0 = 8 + 10 then (if x_tag M (x_r M v0 13) = 0 + 10 then (some ((x_i M (x_r M v0 13) 0), M)) else none) else none) else some ((-1 : Int32), M)
set_option maxRecDepth 20000 in
set_option maxHeartbeats 4000000 in
theorem t_X8_status_22 (l : Launch) {v0 : Nat} {v1 : Int32} {M : XM} {q : Int32 × XM} (H : f_X8_status_22 v0 v1 M = some q) : AW l m_X8_status 3 0 0 (x_Ri q) 0 0 22 [some (.ref v0), some (.int v1)] [] M := by
  unfold f_X8_status_22 at H
  refine x_iload_n 22 1 dX8_status_22 rfl rfl ?_
  by_cases c2 : v1 = (0 : Int32)
  · replace H := x_ifp c2 H
    refine x_tableIn (off := 49) 23 72 dX8_status_23 (by rw [c2]; decide) (by rw [c2]; decide) (by rw [c2]; rfl) (by decide) ?_
    refine x_aload_n 72 0 dX8_status_72 rfl rfl ?_
    obtain ⟨h3, H⟩ := x_ckp H
    refine x_getf 73 10 8 0 (.ref (x_r M v0 0)) dX8_status_73 lk_360 (by decide) (by decide) rfl (fun _ => rfl) h3 ?_
    obtain ⟨h4, H⟩ := x_ckp H
    refine x_getf 76 273 4 1 (.int (x_i M (x_r M v0 0) 1)) dX8_status_76 lk_161 (by decide) (by decide) rfl (fun _ => rfl) h4 ?_
    cases H
    exact x_iret 79 dX8_status_79 .int rfl rfl (Nat.le_of_ble_eq_true rfl) (Nat.le_of_ble_eq_true rfl) ⟨rfl, rfl⟩
  · replace H := x_ifn c2 H
    by_cases c5 : v1 = (1 : Int32)
    · replace H := x_ifp c5 H
      refine x_tableIn (off := 57) 23 80 dX8_status_23 (by rw [c5]; decide) (by rw [c5]; decide) (by rw [c5]; rfl) (by decide) ?_
      refine x_aload_n 80 0 dX8_status_80 rfl rfl ?_
      obtain ⟨h6, H⟩ := x_ckp H
      refine x_getf 81 10 8 0 (.ref (x_r M v0 0)) dX8_status_81 lk_360 (by decide) (by decide) rfl (fun _ => rfl) h6 ?_
      obtain ⟨h7, H⟩ := x_ckp H
      obtain ⟨r9, M8, e10, H⟩ := x_bd_of H
      refine x_callV 84 334 4 [] [] dX8_status_84 (ct_X4_countThrough l e10) lk_1023 lk_956 lk_957 (by decide) h7 lk_86 lk_958 ⟨cn_X4_countThrough, (by decide), by decide⟩ rfl (Nat.le_of_ble_eq_true rfl) (Nat.le_of_ble_eq_true rfl) (Nat.le_of_ble_eq_true rfl) (x_ri ?_)
      cases H
      exact x_iret 87 dX8_status_87 .int rfl rfl (Nat.le_of_ble_eq_true rfl) (Nat.le_of_ble_eq_true rfl) ⟨rfl, rfl⟩
    · replace H := x_ifn c5 H
      by_cases c11 : v1 = (2 : Int32)
      · replace H := x_ifp c11 H
        refine x_tableIn (off := 65) 23 88 dX8_status_23 (by rw [c11]; decide) (by rw [c11]; decide) (by rw [c11]; rfl) (by decide) ?_
        refine x_aload_n 88 0 dX8_status_88 rfl rfl ?_
        obtain ⟨h12, H⟩ := x_ckp H
        refine x_getf 89 10 8 0 (.ref (x_r M v0 0)) dX8_status_89 lk_360 (by decide) (by decide) rfl (fun _ => rfl) h12 ?_
        obtain ⟨h13, H⟩ := x_ckp H
        refine x_getf 92 190 4 2 (.int (x_i M (x_r M v0 0) 2)) dX8_status_92 lk_166 (by decide) (by decide) rfl (fun _ => rfl) h13 ?_
        cases H
        exact x_iret 95 dX8_status_95 .int rfl rfl (Nat.le_of_ble_eq_true rfl) (Nat.le_of_ble_eq_true rfl) ⟨rfl, rfl⟩
      · replace H := x_ifn c11 H
        by_cases c14 : v1 = (3 : Int32)
        · replace H := x_ifp c14 H
          refine x_tableIn (off := 73) 23 96 dX8_status_23 (by rw [c14]; decide) (by rw [c14]; decide) (by rw [c14]; rfl) (by decide) ?_
          refine x_aload_n 96 0 dX8_status_96 rfl rfl ?_
          obtain ⟨h15, H⟩ := x_ckp H
          refine x_getf 97 10 8 0 (.ref (x_r M v0 0)) dX8_status_97 lk_360 (by decide) (by decide) rfl (fun _ => rfl) h15 ?_
          obtain ⟨h16, H⟩ := x_ckp H
          refine x_getf 100 154 4 3 (.int (x_i M (x_r M v0 0) 3)) dX8_status_100 lk_171 (by decide) (by decide) rfl (fun _ => rfl) h16 ?_
          cases H
          exact x_iret 103 dX8_status_103 .int rfl rfl (Nat.le_of_ble_eq_true rfl) (Nat.le_of_ble_eq_true rfl) ⟨rfl, rfl⟩
        · replace H := x_ifn c14 H
          by_cases c17 : v1 = (4 : Int32)
          · replace H := x_ifp c17 H
            refine x_tableIn (off := 81) 23 104 dX8_status_23 (by rw [c17]; decide) (by rw [c17]; decide) (by rw [c17]; rfl) (by decide) ?_
            refine x_aload_n 104 0 dX8_status_104 rfl rfl ?_
            obtain ⟨h18, H⟩ := x_ckp H
            refine x_getf 105 10 8 0 (.ref (x_r M v0 0)) dX8_status_105 lk_360 (by decide) (by decide) rfl (fun _ => rfl) h18 ?_
            obtain ⟨h19, H⟩ := x_ckp H
            refine x_getf 108 337 4 4 (.int (x_i M (x_r M v0 0) 4)) dX8_status_108 lk_174 (by decide) (by decide) rfl (fun _ => rfl) h19 ?_
            cases H
            exact x_iret 111 dX8_status_111 .int rfl rfl (Nat.le_of_ble_eq_true rfl) (Nat.le_of_ble_eq_true rfl) ⟨rfl, rfl⟩
          · replace H := x_ifn c17 H
            by_cases c20 : v1 = (5 : Int32)
            · replace H := x_ifp c20 H
              refine x_tableIn (off := 89) 23 112 dX8_status_23 (by rw [c20]; decide) (by rw [c20]; decide) (by rw [c20]; rfl) (by decide) ?_
              refine x_aload_n 112 0 dX8_status_112 rfl rfl ?_
              obtain ⟨h21, H⟩ := x_ckp H
              refine x_getf 113 10 8 0 (.ref (x_r M v0 0)) dX8_status_113 lk_360 (by decide) (by decide) rfl (fun _ => rfl) h21 ?_
              obtain ⟨h22, H⟩ := x_ckp H
              refine x_getf 116 250 4 5 (.int (x_i M (x_r M v0 0) 5)) dX8_status_116 lk_176 (by decide) (by decide) rfl (fun _ => rfl) h22 ?_
              cases H
              exact x_iret 119 dX8_status_119 .int rfl rfl (Nat.le_of_ble_eq_true rfl) (Nat.le_of_ble_eq_true rfl) ⟨rfl, rfl⟩
            · replace H := x_ifn c20 H
              by_cases c23 : v1 = (6 : Int32)
              · replace H := x_ifp c23 H
                refine x_tableIn (off := 97) 23 120 dX8_status_23 (by rw [c23]; decide) (by rw [c23]; decide) (by rw [c23]; rfl) (by decide) ?_
                refine x_aload_n 120 0 dX8_status_120 rfl rfl ?_
                obtain ⟨h24, H⟩ := x_ckp H
                refine x_getf 121 10 8 0 (.ref (x_r M v0 0)) dX8_status_121 lk_360 (by decide) (by decide) rfl (fun _ => rfl) h24 ?_
                obtain ⟨h25, H⟩ := x_ckp H
                refine x_getf 124 311 4 8 (.int (x_i M (x_r M v0 0) 8)) dX8_status_124 lk_182 (by decide) (by decide) rfl (fun _ => rfl) h25 ?_
                cases H
                exact x_iret 127 dX8_status_127 .int rfl rfl (Nat.le_of_ble_eq_true rfl) (Nat.le_of_ble_eq_true rfl) ⟨rfl, rfl⟩
              · replace H := x_ifn c23 H
                by_cases c26 : v1 = (7 : Int32)
                · replace H := x_ifp c26 H
                  refine x_tableIn (off := 105) 23 128 dX8_status_23 (by rw [c26]; decide) (by rw [c26]; decide) (by rw [c26]; rfl) (by decide) ?_
                  refine x_aload_n 128 0 dX8_status_128 rfl rfl ?_
                  obtain ⟨h27, H⟩ := x_ckp H
                  refine x_getf 129 10 8 0 (.ref (x_r M v0 0)) dX8_status_129 lk_360 (by decide) (by decide) rfl (fun _ => rfl) h27 ?_
                  obtain ⟨h28, H⟩ := x_ckp H
                  refine x_getf 132 317 4 9 (.int (x_i M (x_r M v0 0) 9)) dX8_status_132 lk_184 (by decide) (by decide) rfl (fun _ => rfl) h28 ?_
                  cases H
                  exact x_iret 135 dX8_status_135 .int rfl rfl (Nat.le_of_ble_eq_true rfl) (Nat.le_of_ble_eq_true rfl) ⟨rfl, rfl⟩
                · replace H := x_ifn c26 H
                  by_cases c29 : v1 = (8 : Int32)
                  · replace H := x_ifp c29 H
                    refine x_tableIn (off := 113) 23 136 dX8_status_23 (by rw [c29]; decide) (by rw [c29]; decide) (by rw [c29]; rfl) (by decide) ?_
                    refine x_aload_n 136 0 dX8_status_136 rfl rfl ?_
                    obtain ⟨h30, H⟩ := x_ckp H
                    refine x_getf 137 77 8 13 (.ref (x_r M v0 13)) dX8_status_137 lk_373 (by decide) (by decide) rfl (fun _ => rfl) h30 ?_
                    obtain ⟨h31, H⟩ := x_ckp H
                    refine x_getf 140 340 0 0 (.int (x_i M (x_r M v0 13) 0)) dX8_status_140 lk_321 (by decide) (by decide) rfl (fun _ => rfl) h31 ?_
                    cases H
                    exact x_iret 143 dX8_status_143 .int rfl rfl (Nat.le_of_ble_eq_true rfl) (Nat.le_of_ble_eq_true rfl) ⟨rfl, rfl⟩
                  · replace H := x_ifn c29 H
                    refine x_tableOut 23 144 dX8_status_23 (by have n0 := lv_neT (a := 0) c2 (by decide); have n1 := lv_neT (a := 1) c5 (by decide); have n2 := lv_neT (a := 2) c11 (by decide); have n3 := lv_neT (a := 3) c14 (by decide); have n4 := lv_neT (a := 4) c17 (by decide); have n5 := lv_neT (a := 5) c20 (by decide); have n6 := lv_neT (a := 6) c23 (by decide); have n7 := lv_neT (a := 7) c26 (by decide); have n8 := lv_neT (a := 8) c29 (by decide); omega) (by decide) ?_
                    refine x_iconst 144 (-1 : Int32) dX8_status_144 (by decide) ?_
                    cases H
                    exact x_iret 145 dX8_status_145 .int rfl rfl (Nat.le_of_ble_eq_true rfl) (Nat.le_of_ble_eq_true rfl) ⟨rfl, rfl⟩

def f_X8_status (v0 : Nat) (v1 : Int32) (M : XM) : Option (Int32 × XM) :=
  if v1 < (11 : Int32) then (f_X8_status_22 v0 v1 M) else (if (17 : Int32) < v1 then (f_X8_status_22 v0 v1 M) else (if x_tag M v0 = 8 + 10 then (if x_at M (x_r M v0 6) 1 (v1 - (10 : Int32)) = true then (some ((x_i M (x_r M v0 6) (v1 - (10 : Int32)).toNatClampNeg), M)) else none) else none))
set_option maxRecDepth 20000 in
set_option maxHeartbeats 4000000 in
theorem t_X8_status (l : Launch) {v0 : Nat} {v1 : Int32} {M : XM} {q : Int32 × XM} (H : f_X8_status v0 v1 M = some q) : AW l m_X8_status 3 0 0 (x_Ri q) 0 0 0 [some (.ref v0), some (.int v1)] [] M := by
  unfold f_X8_status at H
  refine x_iload_n 0 1 dX8_status_0 rfl rfl ?_
  refine x_bipush 1 (11 : Int32) dX8_status_1 (by decide) ?_
  refine x_icmp_lt 3 22 dX8_status_3 (by decide) (fun c1 => ?_) (fun c1 => ?_)
  · replace H := x_ifp c1 H
    exact t_X8_status_22 l H
  · replace H := x_ifn c1 H
    refine x_iload_n 6 1 dX8_status_6 rfl rfl ?_
    refine x_bipush 7 (17 : Int32) dX8_status_7 (by decide) ?_
    refine x_icmp_gt 9 22 dX8_status_9 (by decide) (fun c32 => ?_) (fun c32 => ?_)
    · replace H := x_ifp c32 H
      exact t_X8_status_22 l H
    · replace H := x_ifn c32 H
      refine x_aload_n 12 0 dX8_status_12 rfl rfl ?_
      obtain ⟨h33, H⟩ := x_ckp H
      refine x_getf 13 36 8 6 (.ref (x_r M v0 6)) dX8_status_13 lk_366 (by decide) (by decide) rfl (fun _ => rfl) h33 ?_
      refine x_iload_n 16 1 dX8_status_16 rfl rfl ?_
      refine x_bipush 17 (10 : Int32) dX8_status_17 (by decide) ?_
      refine x_isub 19 dX8_status_19 ?_
      obtain ⟨h34, H⟩ := x_ckp H
      refine x_iald 20 dX8_status_20 h34 ?_
      cases H
      exact x_iret 21 dX8_status_21 .int rfl rfl (Nat.le_of_ble_eq_true rfl) (Nat.le_of_ble_eq_true rfl) ⟨rfl, rfl⟩

theorem ct_X8_status (l : Launch) {v0 : Nat} {v1 : Int32} {M : XM} {q : Int32 × XM} (H : f_X8_status v0 v1 M = some q) : Ct l m_X8_status 3 0 0 [(.ref v0), (.int v1)] M (x_Ri q) := x_met l m_X8_status 3 0 0 [(.ref v0), (.int v1)] M (x_Ri q) _ rfl rfl (Nat.le_of_ble_eq_true rfl) (t_X8_status l H)
theorem lk_1029 : Cond.methodLink RX9 1 Lib.objectInit ∈ x_TB := x_tb (k := 1029) (by decide +kernel) rfl
theorem lk_1031 : Cond.fieldLink RX9 7 RX9 "n" "I" ∈ x_TB := x_tb (k := 1031) (by decide +kernel) rfl
theorem lk_1032 : Cond.fieldLink RX9 13 RX9 "apart" "I" ∈ x_TB := x_tb (k := 1032) (by decide +kernel) rfl
theorem lk_1033 : Cond.fieldLink RX9 16 RX9 "odds" "I" ∈ x_TB := x_tb (k := 1033) (by decide +kernel) rfl
theorem lk_1034 : Cond.fieldLink RX9 19 RX9 "cost" "I" ∈ x_TB := x_tb (k := 1034) (by decide +kernel) rfl
theorem lk_1037 : Cond.fieldLink RX9 22 RX9 "seed" "I" ∈ x_TB := x_tb (k := 1037) (by decide +kernel) rfl
theorem lk_1038 : Cond.fieldLink RX9 25 RX9 "fault" "I" ∈ x_TB := x_tb (k := 1038) (by decide +kernel) rfl
theorem lk_1039 : Cond.fieldLink RX9 28 RX9 "refused" "[I" ∈ x_TB := x_tb (k := 1039) (by decide +kernel) rfl
theorem lk_1040 : Cond.fieldLink RX9 32 RX9 "kind" "[I" ∈ x_TB := x_tb (k := 1040) (by decide +kernel) rfl
theorem lk_1041 : Cond.fieldLink RX9 35 RX9 "part" "[I" ∈ x_TB := x_tb (k := 1041) (by decide +kernel) rfl
theorem lk_1042 : Cond.fieldLink RX9 38 RX9 "at" "[I" ∈ x_TB := x_tb (k := 1042) (by decide +kernel) rfl
theorem lk_1043 : Cond.fieldLink RX9 41 RX9 "off" "[I" ∈ x_TB := x_tb (k := 1043) (by decide +kernel) rfl
theorem lk_1044 : Cond.fieldLink RX9 44 RX9 "heard" "[I" ∈ x_TB := x_tb (k := 1044) (by decide +kernel) rfl
theorem lk_1045 : Cond.fieldLink RX9 47 RX9 "tallies" "[I" ∈ x_TB := x_tb (k := 1045) (by decide +kernel) rfl
theorem lk_1046 : Cond.fieldLink RX9 50 RX9 "held" "[I" ∈ x_TB := x_tb (k := 1046) (by decide +kernel) rfl
theorem lk_1047 : Cond.fieldLink RX9 53 RX9 "sort" "[I" ∈ x_TB := x_tb (k := 1047) (by decide +kernel) rfl
theorem lk_1048 : Cond.fieldLink RX9 56 RX9 "size" "[I" ∈ x_TB := x_tb (k := 1048) (by decide +kernel) rfl
theorem lk_1049 : Cond.fieldLink RX9 59 RX9 "shown" "[I" ∈ x_TB := x_tb (k := 1049) (by decide +kernel) rfl
theorem lk_1050 : Cond.fieldLink RX9 62 RX9 "cells" "[J" ∈ x_TB := x_tb (k := 1050) (by decide +kernel) rfl
theorem lk_1051 : Cond.fieldLink RX9 66 RX9 "carried" "[J" ∈ x_TB := x_tb (k := 1051) (by decide +kernel) rfl
theorem lk_1052 : Cond.fieldLink RX9 69 RX9 "words" "[I" ∈ x_TB := x_tb (k := 1052) (by decide +kernel) rfl
theorem lk_1053 : Cond.fieldLink RX9 72 RX9 "tell" "[I" ∈ x_TB := x_tb (k := 1053) (by decide +kernel) rfl
theorem lk_1059 : Cond.fieldLink RX9 75 RX9 "was" "[I" ∈ x_TB := x_tb (k := 1059) (by decide +kernel) rfl
theorem lk_1060 : Cond.fieldLink RX9 78 RX9 "kept" "[I" ∈ x_TB := x_tb (k := 1060) (by decide +kernel) rfl
theorem lk_1065 : Cond.fieldLink RX9 81 RX9 "parts" "[I" ∈ x_TB := x_tb (k := 1065) (by decide +kernel) rfl
theorem lk_1066 : Cond.fieldLink RX9 84 RX9 "later" "[I" ∈ x_TB := x_tb (k := 1066) (by decide +kernel) rfl
theorem lk_1068 : Cond.fieldLink RX9 87 RX9 "wrongs" "[I" ∈ x_TB := x_tb (k := 1068) (by decide +kernel) rfl
theorem lk_1069 : Cond.fieldLink RX9 90 RX9 "trace" "[I" ∈ x_TB := x_tb (k := 1069) (by decide +kernel) rfl
abbrev m_X9_init : XU := (yX9_init, cX9_init, 1, none)
theorem cn_X9_init : m_X9_init.1.cls ≠ "java/lang/invoke/MethodHandle" ∧ m_X9_init.1.cls ≠ "java/lang/invoke/VarHandle" ∧ (parseMethodDescriptor m_X9_init.1.desc).map (fun q => q.parameters.length) = some 0 := by decide +kernel
set_option maxRecDepth 20000 in
def f_X9_init (v0 : Nat) (M : XM) : Option XM :=
  if x_tag M v0 = 9 + 10 then (x_lt (x_wi M v0 1 (20 : Int32)) (fun M2 => x_lt (x_wi M2 v0 2 (5 : Int32)) (fun M5 => x_lt (x_wi M5 v0 3 (100 : Int32)) (fun M8 => x_lt (x_wi M8 v0 4 (1 : Int32)) (fun M11 => x_lt (x_wi M11 v0 7 (1 : Int32)) (fun M14 => x_lt (x_wi M14 v0 8 (-1 : Int32)) (fun M17 => x_al M17 1 8 (fun a21 M20 => if x_tag M20 v0 = 9 + 10 then (x_lt (x_wr M20 v0 9 a21) (fun M26 => x_al M26 1 6 (fun a31 M30 => if x_tag M30 v0 = 9 + 10 then (x_lt (x_wr M30 v0 10 a31) (fun M36 => x_al M36 1 6 (fun a41 M40 => if x_tag M40 v0 = 9 + 10 then (x_lt (x_wr M40 v0 11 a41) (fun M46 => x_al M46 1 6 (fun a51 M50 => if x_tag M50 v0 = 9 + 10 then (x_lt (x_wr M50 v0 12 a51) (fun M56 => x_al M56 1 6 (fun a61 M60 => if x_tag M60 v0 = 9 + 10 then (x_lt (x_wr M60 v0 13 a61) (fun M66 => x_al M66 1 6 (fun a71 M70 => if x_tag M70 v0 = 9 + 10 then (x_lt (x_wr M70 v0 14 a71) (fun M76 => x_al M76 1 8 (fun a81 M80 => if x_tag M80 v0 = 9 + 10 then (x_lt (x_wr M80 v0 15 a81) (fun M86 => x_al M86 1 8 (fun a91 M90 => if x_tag M90 v0 = 9 + 10 then (x_lt (x_wr M90 v0 16 a91) (fun M96 => x_al M96 1 8 (fun a101 M100 => if x_tag M100 v0 = 9 + 10 then (x_lt (x_wr M100 v0 17 a101) (fun M106 => x_al M106 1 8 (fun a111 M110 => if x_tag M110 v0 = 9 + 10 then (x_lt (x_wr M110 v0 18 a111) (fun M116 => x_al M116 1 8 (fun a121 M120 => if x_tag M120 v0 = 9 + 10 then (x_lt (x_wr M120 v0 19 a121) (fun M126 => x_al M126 2 1280 (fun a131 M130 => if x_tag M130 v0 = 9 + 10 then (x_lt (x_wr M130 v0 20 a131) (fun M136 => x_al M136 2 160 (fun a141 M140 => if x_tag M140 v0 = 9 + 10 then (x_lt (x_wr M140 v0 21 a141) (fun M146 => x_al M146 1 44 (fun a151 M150 => if x_at M150 a151 1 (0 : Int32) = true then (x_lt (x_wi M150 a151 (0 : Int32).toNatClampNeg (99 : Int32)) (fun M156 => if x_at M156 a151 1 (1 : Int32) = true then (x_lt (x_wi M156 a151 (1 : Int32).toNatClampNeg (111 : Int32)) (fun M161 => if x_at M161 a151 1 (2 : Int32) = true then (x_lt (x_wi M161 a151 (2 : Int32).toNatClampNeg (117 : Int32)) (fun M167 => if x_at M167 a151 1 (3 : Int32) = true then (x_lt (x_wi M167 a151 (3 : Int32).toNatClampNeg (110 : Int32)) (fun M174 => if x_at M174 a151 1 (4 : Int32) = true then (x_lt (x_wi M174 a151 (4 : Int32).toNatClampNeg (116 : Int32)) (fun M182 => if x_at M182 a151 1 (5 : Int32) = true then (x_lt (x_wi M182 a151 (5 : Int32).toNatClampNeg (101 : Int32)) (fun M191 => if x_at M191 a151 1 (6 : Int32) = true then (x_lt (x_wi M191 a151 (6 : Int32).toNatClampNeg (114 : Int32)) (fun M201 => if x_at M201 a151 1 (7 : Int32) = true then (x_lt (x_wi M201 a151 (7 : Int32).toNatClampNeg (32 : Int32)) (fun M212 => if x_at M212 a151 1 (8 : Int32) = true then (x_lt (x_wi M212 a151 (8 : Int32).toNatClampNeg (0 : Int32)) (fun M224 => if x_at M224 a151 1 (9 : Int32) = true then (x_lt (x_wi M224 a151 (9 : Int32).toNatClampNeg (116 : Int32)) (fun M237 => if x_at M237 a151 1 (10 : Int32) = true then (x_lt (x_wi M237 a151 (10 : Int32).toNatClampNeg (111 : Int32)) (fun M251 => if x_at M251 a151 1 (11 : Int32) = true then (x_lt (x_wi M251 a151 (11 : Int32).toNatClampNeg (32 : Int32)) (fun M266 => if x_at M266 a151 1 (12 : Int32) = true then (x_lt (x_wi M266 a151 (12 : Int32).toNatClampNeg (0 : Int32)) (fun M282 => if x_at M282 a151 1 (13 : Int32) = true then (x_lt (x_wi M282 a151 (13 : Int32).toNatClampNeg (97 : Int32)) (fun M299 => if x_at M299 a151 1 (14 : Int32) = true then (x_lt (x_wi M299 a151 (14 : Int32).toNatClampNeg (112 : Int32)) (fun M317 => if x_at M317 a151 1 (15 : Int32) = true then (x_lt (x_wi M317 a151 (15 : Int32).toNatClampNeg (97 : Int32)) (fun M336 => if x_at M336 a151 1 (16 : Int32) = true then (x_lt (x_wi M336 a151 (16 : Int32).toNatClampNeg (114 : Int32)) (fun M356 => if x_at M356 a151 1 (17 : Int32) = true then (x_lt (x_wi M356 a151 (17 : Int32).toNatClampNeg (116 : Int32)) (fun M377 => if x_at M377 a151 1 (18 : Int32) = true then (x_lt (x_wi M377 a151 (18 : Int32).toNatClampNeg (32 : Int32)) (fun M399 => if x_at M399 a151 1 (19 : Int32) = true then (x_lt (x_wi M399 a151 (19 : Int32).toNatClampNeg (0 : Int32)) (fun M422 => if x_at M422 a151 1 (20 : Int32) = true then (x_lt (x_wi M422 a151 (20 : Int32).toNatClampNeg (111 : Int32)) (fun M446 => if x_at M446 a151 1 (21 : Int32) = true then (x_lt (x_wi M446 a151 (21 : Int32).toNatClampNeg (100 : Int32)) (fun M471 => if x_at M471 a151 1 (22 : Int32) = true then (x_lt (x_wi M471 a151 (22 : Int32).toNatClampNeg (100 : Int32)) (fun M497 => if x_at M497 a151 1 (23 : Int32) = true then (x_lt (x_wi M497 a151 (23 : Int32).toNatClampNeg (115 : Int32)) (fun M524 => if x_at M524 a151 1 (24 : Int32) = true then (x_lt (x_wi M524 a151 (24 : Int32).toNatClampNeg (32 : Int32)) (fun M552 => if x_at M552 a151 1 (25 : Int32) = true then (x_lt (x_wi M552 a151 (25 : Int32).toNatClampNeg (0 : Int32)) (fun M581 => if x_at M581 a151 1 (26 : Int32) = true then (x_lt (x_wi M581 a151 (26 : Int32).toNatClampNeg (99 : Int32)) (fun M611 => if x_at M611 a151 1 (27 : Int32) = true then (x_lt (x_wi M611 a151 (27 : Int32).toNatClampNeg (111 : Int32)) (fun M642 => if x_at M642 a151 1 (28 : Int32) = true then (x_lt (x_wi M642 a151 (28 : Int32).toNatClampNeg (115 : Int32)) (fun M674 => if x_at M674 a151 1 (29 : Int32) = true then (x_lt (x_wi M674 a151 (29 : Int32).toNatClampNeg (116 : Int32)) (fun M707 => if x_at M707 a151 1 (30 : Int32) = true then (x_lt (x_wi M707 a151 (30 : Int32).toNatClampNeg (32 : Int32)) (fun M741 => if x_at M741 a151 1 (31 : Int32) = true then (x_lt (x_wi M741 a151 (31 : Int32).toNatClampNeg (0 : Int32)) (fun M776 => if x_at M776 a151 1 (32 : Int32) = true then (x_lt (x_wi M776 a151 (32 : Int32).toNatClampNeg (116 : Int32)) (fun M812 => if x_at M812 a151 1 (33 : Int32) = true then (x_lt (x_wi M812 a151 (33 : Int32).toNatClampNeg (97 : Int32)) (fun M849 => if x_at M849 a151 1 (34 : Int32) = true then (x_lt (x_wi M849 a151 (34 : Int32).toNatClampNeg (108 : Int32)) (fun M887 => if x_at M887 a151 1 (35 : Int32) = true then (x_lt (x_wi M887 a151 (35 : Int32).toNatClampNeg (108 : Int32)) (fun M926 => if x_at M926 a151 1 (36 : Int32) = true then (x_lt (x_wi M926 a151 (36 : Int32).toNatClampNeg (121 : Int32)) (fun M966 => if x_at M966 a151 1 (37 : Int32) = true then (x_lt (x_wi M966 a151 (37 : Int32).toNatClampNeg (32 : Int32)) (fun M1007 => if x_at M1007 a151 1 (38 : Int32) = true then (x_lt (x_wi M1007 a151 (38 : Int32).toNatClampNeg (0 : Int32)) (fun M1049 => if x_at M1049 a151 1 (39 : Int32) = true then (x_lt (x_wi M1049 a151 (39 : Int32).toNatClampNeg (97 : Int32)) (fun M1092 => if x_at M1092 a151 1 (40 : Int32) = true then (x_lt (x_wi M1092 a151 (40 : Int32).toNatClampNeg (115 : Int32)) (fun M1136 => if x_at M1136 a151 1 (41 : Int32) = true then (x_lt (x_wi M1136 a151 (41 : Int32).toNatClampNeg (107 : Int32)) (fun M1181 => if x_at M1181 a151 1 (42 : Int32) = true then (x_lt (x_wi M1181 a151 (42 : Int32).toNatClampNeg (32 : Int32)) (fun M1227 => if x_at M1227 a151 1 (43 : Int32) = true then (x_lt (x_wi M1227 a151 (43 : Int32).toNatClampNeg (0 : Int32)) (fun M1274 => if x_tag M1274 v0 = 9 + 10 then (x_lt (x_wr M1274 v0 22 a151) (fun M1322 => x_al M1322 1 2 (fun a1371 M1370 => if x_tag M1370 v0 = 9 + 10 then (x_lt (x_wr M1370 v0 23 a1371) (fun M1376 => x_al M1376 1 50 (fun a1381 M1380 => if x_tag M1380 v0 = 9 + 10 then (x_lt (x_wr M1380 v0 29 a1381) (fun M1386 => x_al M1386 1 50 (fun a1391 M1390 => if x_tag M1390 v0 = 9 + 10 then (x_lt (x_wr M1390 v0 30 a1391) (fun M1396 => x_al M1396 1 2010 (fun a1401 M1400 => if x_tag M1400 v0 = 9 + 10 then (x_lt (x_wr M1400 v0 35 a1401) (fun M1406 => x_al M1406 1 2010 (fun a1411 M1410 => if x_tag M1410 v0 = 9 + 10 then (x_lt (x_wr M1410 v0 36 a1411) (fun M1416 => x_al M1416 1 402 (fun a1421 M1420 => if x_tag M1420 v0 = 9 + 10 then (x_lt (x_wr M1420 v0 38 a1421) (fun M1426 => x_al M1426 1 20 (fun a1431 M1430 => if x_tag M1430 v0 = 9 + 10 then (x_lt (x_wr M1430 v0 39 a1431) (fun M1436 => some M1436)) else none))) else none))) else none))) else none))) else none))) else none))) else none))) else none)) else none)) else none)) else none)) else none)) else none)) else none)) else none)) else none)) else none)) else none)) else none)) else none)) else none)) else none)) else none)) else none)) else none)) else none)) else none)) else none)) else none)) else none)) else none)) else none)) else none)) else none)) else none)) else none)) else none)) else none)) else none)) else none)) else none)) else none)) else none)) else none)) else none)) else none)) else none)) else none)) else none)) else none)) else none)) else none))) else none))) else none))) else none))) else none))) else none))) else none))) else none))) else none))) else none))) else none))) else none))) else none))) else none)))))))) else none
set_option maxRecDepth 20000 in
set_option maxHeartbeats 4000000 in
theorem t_X9_init (l : Launch) {v0 : Nat} {M : XM} {q : XM} (H : f_X9_init v0 M = some q) : AW l m_X9_init 1 21 6106 (x_Rv q) 0 0 0 [some (.ref v0)] [] M := by
  unfold f_X9_init at H
  refine x_aload_n 0 0 dX9_init_0 rfl rfl ?_
  obtain ⟨h1, H⟩ := x_ckp H
  refine x_objInit 1 1 dX9_init_1 lk_1029 lk_108 lk_109 h1 rfl (Nat.le_of_ble_eq_true rfl) (by decide) ?_
  refine x_aload_n 4 0 dX9_init_4 rfl rfl ?_
  refine x_bipush 5 (20 : Int32) dX9_init_5 (by decide) ?_
  obtain ⟨M2, w3, H⟩ := x_lt_of H
  have h4 : x_tag M2 v0 = 9 + 10 := by rw [w3]; exact h1
  refine x_putI' 7 7 9 1 dX9_init_7 lk_1031 (by decide) (by decide) rfl (Or.inl rfl) (Or.inl rfl) h1 w3 ?_
  refine x_aload_n 10 0 dX9_init_10 rfl rfl ?_
  refine x_iconst 11 (5 : Int32) dX9_init_11 (by decide) ?_
  obtain ⟨M5, w6, H⟩ := x_lt_of H
  have h7 : x_tag M5 v0 = 9 + 10 := by rw [w6]; exact h4
  refine x_putI' 12 13 9 2 dX9_init_12 lk_1032 (by decide) (by decide) rfl (Or.inl rfl) (Or.inl rfl) h4 w6 ?_
  refine x_aload_n 15 0 dX9_init_15 rfl rfl ?_
  refine x_bipush 16 (100 : Int32) dX9_init_16 (by decide) ?_
  obtain ⟨M8, w9, H⟩ := x_lt_of H
  have h10 : x_tag M8 v0 = 9 + 10 := by rw [w9]; exact h7
  refine x_putI' 18 16 9 3 dX9_init_18 lk_1033 (by decide) (by decide) rfl (Or.inl rfl) (Or.inl rfl) h7 w9 ?_
  refine x_aload_n 21 0 dX9_init_21 rfl rfl ?_
  refine x_iconst 22 (1 : Int32) dX9_init_22 (by decide) ?_
  obtain ⟨M11, w12, H⟩ := x_lt_of H
  have h13 : x_tag M11 v0 = 9 + 10 := by rw [w12]; exact h10
  refine x_putI' 23 19 9 4 dX9_init_23 lk_1034 (by decide) (by decide) rfl (Or.inl rfl) (Or.inl rfl) h10 w12 ?_
  refine x_aload_n 26 0 dX9_init_26 rfl rfl ?_
  refine x_iconst 27 (1 : Int32) dX9_init_27 (by decide) ?_
  obtain ⟨M14, w15, H⟩ := x_lt_of H
  have h16 : x_tag M14 v0 = 9 + 10 := by rw [w15]; exact h13
  refine x_putI' 28 22 9 7 dX9_init_28 lk_1037 (by decide) (by decide) rfl (Or.inl rfl) (Or.inl rfl) h13 w15 ?_
  refine x_aload_n 31 0 dX9_init_31 rfl rfl ?_
  refine x_iconst 32 (-1 : Int32) dX9_init_32 (by decide) ?_
  obtain ⟨M17, w18, H⟩ := x_lt_of H
  have h19 : x_tag M17 v0 = 9 + 10 := by rw [w18]; exact h16
  refine x_putI' 33 25 9 8 dX9_init_33 lk_1038 (by decide) (by decide) rfl (Or.inl rfl) (Or.inl rfl) h16 w18 ?_
  refine x_aload_n 36 0 dX9_init_36 rfl rfl ?_
  refine x_bipush 37 (8 : Int32) dX9_init_37 (by decide) ?_
  obtain ⟨a21, M20, w22, w23, H⟩ := x_al_of H
  refine x_newI' 39 8 dX9_init_39 lk_153 (by decide) (by decide) (by decide) (Nat.le_of_ble_eq_true rfl) (Nat.le_of_ble_eq_true rfl) w22 w23 ?_
  have h24 : x_tag M20 a21 = 1 := x_al_tag w22 w23
  change AW _ _ _ _ _ _ 1 8 _ _ _ _
  obtain ⟨h25, H⟩ := x_ckp H
  obtain ⟨M26, w27, H⟩ := x_lt_of H
  have h28 : x_tag M26 a21 = 1 := by rw [w27]; exact h24
  have h29 : x_tag M26 v0 = 9 + 10 := by rw [w27]; exact h25
  refine x_putR' 41 28 9 9 dX9_init_41 lk_1039 (by decide) (by decide) rfl (Or.inr ⟨_, rfl⟩) (Or.inr ⟨rfl, rfl⟩) h25 w27 ?_
  refine x_aload_n 44 0 dX9_init_44 rfl rfl ?_
  refine x_bipush 45 (6 : Int32) dX9_init_45 (by decide) ?_
  obtain ⟨a31, M30, w32, w33, H⟩ := x_al_of H
  refine x_newI' 47 6 dX9_init_47 lk_153 (by decide) (by decide) (by decide) (Nat.le_of_ble_eq_true rfl) (Nat.le_of_ble_eq_true rfl) w32 w33 ?_
  have h34 : x_tag M30 a31 = 1 := x_al_tag w32 w33
  change AW _ _ _ _ _ _ 2 14 _ _ _ _
  obtain ⟨h35, H⟩ := x_ckp H
  obtain ⟨M36, w37, H⟩ := x_lt_of H
  have h38 : x_tag M36 a31 = 1 := by rw [w37]; exact h34
  have h39 : x_tag M36 v0 = 9 + 10 := by rw [w37]; exact h35
  refine x_putR' 49 32 9 10 dX9_init_49 lk_1040 (by decide) (by decide) rfl (Or.inr ⟨_, rfl⟩) (Or.inr ⟨rfl, rfl⟩) h35 w37 ?_
  refine x_aload_n 52 0 dX9_init_52 rfl rfl ?_
  refine x_bipush 53 (6 : Int32) dX9_init_53 (by decide) ?_
  obtain ⟨a41, M40, w42, w43, H⟩ := x_al_of H
  refine x_newI' 55 6 dX9_init_55 lk_153 (by decide) (by decide) (by decide) (Nat.le_of_ble_eq_true rfl) (Nat.le_of_ble_eq_true rfl) w42 w43 ?_
  have h44 : x_tag M40 a41 = 1 := x_al_tag w42 w43
  change AW _ _ _ _ _ _ 3 20 _ _ _ _
  obtain ⟨h45, H⟩ := x_ckp H
  obtain ⟨M46, w47, H⟩ := x_lt_of H
  have h48 : x_tag M46 a41 = 1 := by rw [w47]; exact h44
  have h49 : x_tag M46 v0 = 9 + 10 := by rw [w47]; exact h45
  refine x_putR' 57 35 9 11 dX9_init_57 lk_1041 (by decide) (by decide) rfl (Or.inr ⟨_, rfl⟩) (Or.inr ⟨rfl, rfl⟩) h45 w47 ?_
  refine x_aload_n 60 0 dX9_init_60 rfl rfl ?_
  refine x_bipush 61 (6 : Int32) dX9_init_61 (by decide) ?_
  obtain ⟨a51, M50, w52, w53, H⟩ := x_al_of H
  refine x_newI' 63 6 dX9_init_63 lk_153 (by decide) (by decide) (by decide) (Nat.le_of_ble_eq_true rfl) (Nat.le_of_ble_eq_true rfl) w52 w53 ?_
  have h54 : x_tag M50 a51 = 1 := x_al_tag w52 w53
  change AW _ _ _ _ _ _ 4 26 _ _ _ _
  obtain ⟨h55, H⟩ := x_ckp H
  obtain ⟨M56, w57, H⟩ := x_lt_of H
  have h58 : x_tag M56 a51 = 1 := by rw [w57]; exact h54
  have h59 : x_tag M56 v0 = 9 + 10 := by rw [w57]; exact h55
  refine x_putR' 65 38 9 12 dX9_init_65 lk_1042 (by decide) (by decide) rfl (Or.inr ⟨_, rfl⟩) (Or.inr ⟨rfl, rfl⟩) h55 w57 ?_
  refine x_aload_n 68 0 dX9_init_68 rfl rfl ?_
  refine x_bipush 69 (6 : Int32) dX9_init_69 (by decide) ?_
  obtain ⟨a61, M60, w62, w63, H⟩ := x_al_of H
  refine x_newI' 71 6 dX9_init_71 lk_153 (by decide) (by decide) (by decide) (Nat.le_of_ble_eq_true rfl) (Nat.le_of_ble_eq_true rfl) w62 w63 ?_
  have h64 : x_tag M60 a61 = 1 := x_al_tag w62 w63
  change AW _ _ _ _ _ _ 5 32 _ _ _ _
  obtain ⟨h65, H⟩ := x_ckp H
  obtain ⟨M66, w67, H⟩ := x_lt_of H
  have h68 : x_tag M66 a61 = 1 := by rw [w67]; exact h64
  have h69 : x_tag M66 v0 = 9 + 10 := by rw [w67]; exact h65
  refine x_putR' 73 41 9 13 dX9_init_73 lk_1043 (by decide) (by decide) rfl (Or.inr ⟨_, rfl⟩) (Or.inr ⟨rfl, rfl⟩) h65 w67 ?_
  refine x_aload_n 76 0 dX9_init_76 rfl rfl ?_
  refine x_bipush 77 (6 : Int32) dX9_init_77 (by decide) ?_
  obtain ⟨a71, M70, w72, w73, H⟩ := x_al_of H
  refine x_newI' 79 6 dX9_init_79 lk_153 (by decide) (by decide) (by decide) (Nat.le_of_ble_eq_true rfl) (Nat.le_of_ble_eq_true rfl) w72 w73 ?_
  have h74 : x_tag M70 a71 = 1 := x_al_tag w72 w73
  change AW _ _ _ _ _ _ 6 38 _ _ _ _
  obtain ⟨h75, H⟩ := x_ckp H
  obtain ⟨M76, w77, H⟩ := x_lt_of H
  have h78 : x_tag M76 a71 = 1 := by rw [w77]; exact h74
  have h79 : x_tag M76 v0 = 9 + 10 := by rw [w77]; exact h75
  refine x_putR' 81 44 9 14 dX9_init_81 lk_1044 (by decide) (by decide) rfl (Or.inr ⟨_, rfl⟩) (Or.inr ⟨rfl, rfl⟩) h75 w77 ?_
  refine x_aload_n 84 0 dX9_init_84 rfl rfl ?_
  refine x_bipush 85 (8 : Int32) dX9_init_85 (by decide) ?_
  obtain ⟨a81, M80, w82, w83, H⟩ := x_al_of H
  refine x_newI' 87 8 dX9_init_87 lk_153 (by decide) (by decide) (by decide) (Nat.le_of_ble_eq_true rfl) (Nat.le_of_ble_eq_true rfl) w82 w83 ?_
  have h84 : x_tag M80 a81 = 1 := x_al_tag w82 w83
  change AW _ _ _ _ _ _ 7 46 _ _ _ _
  obtain ⟨h85, H⟩ := x_ckp H
  obtain ⟨M86, w87, H⟩ := x_lt_of H
  have h88 : x_tag M86 a81 = 1 := by rw [w87]; exact h84
  have h89 : x_tag M86 v0 = 9 + 10 := by rw [w87]; exact h85
  refine x_putR' 89 47 9 15 dX9_init_89 lk_1045 (by decide) (by decide) rfl (Or.inr ⟨_, rfl⟩) (Or.inr ⟨rfl, rfl⟩) h85 w87 ?_
  refine x_aload_n 92 0 dX9_init_92 rfl rfl ?_
  refine x_bipush 93 (8 : Int32) dX9_init_93 (by decide) ?_
  obtain ⟨a91, M90, w92, w93, H⟩ := x_al_of H
  refine x_newI' 95 8 dX9_init_95 lk_153 (by decide) (by decide) (by decide) (Nat.le_of_ble_eq_true rfl) (Nat.le_of_ble_eq_true rfl) w92 w93 ?_
  have h94 : x_tag M90 a91 = 1 := x_al_tag w92 w93
  change AW _ _ _ _ _ _ 8 54 _ _ _ _
  obtain ⟨h95, H⟩ := x_ckp H
  obtain ⟨M96, w97, H⟩ := x_lt_of H
  have h98 : x_tag M96 a91 = 1 := by rw [w97]; exact h94
  have h99 : x_tag M96 v0 = 9 + 10 := by rw [w97]; exact h95
  refine x_putR' 97 50 9 16 dX9_init_97 lk_1046 (by decide) (by decide) rfl (Or.inr ⟨_, rfl⟩) (Or.inr ⟨rfl, rfl⟩) h95 w97 ?_
  refine x_aload_n 100 0 dX9_init_100 rfl rfl ?_
  refine x_bipush 101 (8 : Int32) dX9_init_101 (by decide) ?_
  obtain ⟨a101, M100, w102, w103, H⟩ := x_al_of H
  refine x_newI' 103 8 dX9_init_103 lk_153 (by decide) (by decide) (by decide) (Nat.le_of_ble_eq_true rfl) (Nat.le_of_ble_eq_true rfl) w102 w103 ?_
  have h104 : x_tag M100 a101 = 1 := x_al_tag w102 w103
  change AW _ _ _ _ _ _ 9 62 _ _ _ _
  obtain ⟨h105, H⟩ := x_ckp H
  obtain ⟨M106, w107, H⟩ := x_lt_of H
  have h108 : x_tag M106 a101 = 1 := by rw [w107]; exact h104
  have h109 : x_tag M106 v0 = 9 + 10 := by rw [w107]; exact h105
  refine x_putR' 105 53 9 17 dX9_init_105 lk_1047 (by decide) (by decide) rfl (Or.inr ⟨_, rfl⟩) (Or.inr ⟨rfl, rfl⟩) h105 w107 ?_
  refine x_aload_n 108 0 dX9_init_108 rfl rfl ?_
  refine x_bipush 109 (8 : Int32) dX9_init_109 (by decide) ?_
  obtain ⟨a111, M110, w112, w113, H⟩ := x_al_of H
  refine x_newI' 111 8 dX9_init_111 lk_153 (by decide) (by decide) (by decide) (Nat.le_of_ble_eq_true rfl) (Nat.le_of_ble_eq_true rfl) w112 w113 ?_
  have h114 : x_tag M110 a111 = 1 := x_al_tag w112 w113
  change AW _ _ _ _ _ _ 10 70 _ _ _ _
  obtain ⟨h115, H⟩ := x_ckp H
  obtain ⟨M116, w117, H⟩ := x_lt_of H
  have h118 : x_tag M116 a111 = 1 := by rw [w117]; exact h114
  have h119 : x_tag M116 v0 = 9 + 10 := by rw [w117]; exact h115
  refine x_putR' 113 56 9 18 dX9_init_113 lk_1048 (by decide) (by decide) rfl (Or.inr ⟨_, rfl⟩) (Or.inr ⟨rfl, rfl⟩) h115 w117 ?_
  refine x_aload_n 116 0 dX9_init_116 rfl rfl ?_
  refine x_bipush 117 (8 : Int32) dX9_init_117 (by decide) ?_
  obtain ⟨a121, M120, w122, w123, H⟩ := x_al_of H
  refine x_newI' 119 8 dX9_init_119 lk_153 (by decide) (by decide) (by decide) (Nat.le_of_ble_eq_true rfl) (Nat.le_of_ble_eq_true rfl) w122 w123 ?_
  have h124 : x_tag M120 a121 = 1 := x_al_tag w122 w123
  change AW _ _ _ _ _ _ 11 78 _ _ _ _
  obtain ⟨h125, H⟩ := x_ckp H
  obtain ⟨M126, w127, H⟩ := x_lt_of H
  have h128 : x_tag M126 a121 = 1 := by rw [w127]; exact h124
  have h129 : x_tag M126 v0 = 9 + 10 := by rw [w127]; exact h125
  refine x_putR' 121 59 9 19 dX9_init_121 lk_1049 (by decide) (by decide) rfl (Or.inr ⟨_, rfl⟩) (Or.inr ⟨rfl, rfl⟩) h125 w127 ?_
  refine x_aload_n 124 0 dX9_init_124 rfl rfl ?_
  refine x_sipush 125 (1280 : Int32) dX9_init_125 (by decide) ?_
  obtain ⟨a131, M130, w132, w133, H⟩ := x_al_of H
  refine x_newL' 128 1280 dX9_init_128 lk_359 (by decide) (by decide) (by decide) (Nat.le_of_ble_eq_true rfl) (Nat.le_of_ble_eq_true rfl) w132 w133 ?_
  have h134 : x_tag M130 a131 = 2 := x_al_tag w132 w133
  change AW _ _ _ _ _ _ 12 1358 _ _ _ _
  obtain ⟨h135, H⟩ := x_ckp H
  obtain ⟨M136, w137, H⟩ := x_lt_of H
  have h138 : x_tag M136 a131 = 2 := by rw [w137]; exact h134
  have h139 : x_tag M136 v0 = 9 + 10 := by rw [w137]; exact h135
  refine x_putR' 130 62 9 20 dX9_init_130 lk_1050 (by decide) (by decide) rfl (Or.inr ⟨_, rfl⟩) (Or.inr ⟨rfl, rfl⟩) h135 w137 ?_
  refine x_aload_n 133 0 dX9_init_133 rfl rfl ?_
  refine x_sipush 134 (160 : Int32) dX9_init_134 (by decide) ?_
  obtain ⟨a141, M140, w142, w143, H⟩ := x_al_of H
  refine x_newL' 137 160 dX9_init_137 lk_359 (by decide) (by decide) (by decide) (Nat.le_of_ble_eq_true rfl) (Nat.le_of_ble_eq_true rfl) w142 w143 ?_
  have h144 : x_tag M140 a141 = 2 := x_al_tag w142 w143
  change AW _ _ _ _ _ _ 13 1518 _ _ _ _
  obtain ⟨h145, H⟩ := x_ckp H
  obtain ⟨M146, w147, H⟩ := x_lt_of H
  have h148 : x_tag M146 a141 = 2 := by rw [w147]; exact h144
  have h149 : x_tag M146 v0 = 9 + 10 := by rw [w147]; exact h145
  refine x_putR' 139 66 9 21 dX9_init_139 lk_1051 (by decide) (by decide) rfl (Or.inr ⟨_, rfl⟩) (Or.inr ⟨rfl, rfl⟩) h145 w147 ?_
  refine x_aload_n 142 0 dX9_init_142 rfl rfl ?_
  refine x_bipush 143 (44 : Int32) dX9_init_143 (by decide) ?_
  obtain ⟨a151, M150, w152, w153, H⟩ := x_al_of H
  refine x_newI' 145 44 dX9_init_145 lk_153 (by decide) (by decide) (by decide) (Nat.le_of_ble_eq_true rfl) (Nat.le_of_ble_eq_true rfl) w152 w153 ?_
  have h154 : x_tag M150 a151 = 1 := x_al_tag w152 w153
  change AW _ _ _ _ _ _ 14 1562 _ _ _ _
  refine x_dup 147 dX9_init_147 rfl ?_
  refine x_iconst 148 (0 : Int32) dX9_init_148 (by decide) ?_
  refine x_bipush 149 (99 : Int32) dX9_init_149 (by decide) ?_
  obtain ⟨h155, H⟩ := x_ckp H
  obtain ⟨M156, w157, H⟩ := x_lt_of H
  have h158 : x_tag M156 a151 = 1 := by rw [w157]; exact h154
  have h159 : x_at M156 a151 1 (0 : Int32) = true := by rw [w157]; exact h155
  refine x_iast' 151 dX9_init_151 h155 w157 ?_
  refine x_dup 152 dX9_init_152 rfl ?_
  refine x_iconst 153 (1 : Int32) dX9_init_153 (by decide) ?_
  refine x_bipush 154 (111 : Int32) dX9_init_154 (by decide) ?_
  obtain ⟨h160, H⟩ := x_ckp H
  obtain ⟨M161, w162, H⟩ := x_lt_of H
  have h163 : x_tag M161 a151 = 1 := by rw [w162]; exact h158
  have h164 : x_at M161 a151 1 (0 : Int32) = true := by rw [w162]; exact h159
  have h165 : x_at M161 a151 1 (1 : Int32) = true := by rw [w162]; exact h160
  refine x_iast' 156 dX9_init_156 h160 w162 ?_
  refine x_dup 157 dX9_init_157 rfl ?_
  refine x_iconst 158 (2 : Int32) dX9_init_158 (by decide) ?_
  refine x_bipush 159 (117 : Int32) dX9_init_159 (by decide) ?_
  obtain ⟨h166, H⟩ := x_ckp H
  obtain ⟨M167, w168, H⟩ := x_lt_of H
  have h169 : x_tag M167 a151 = 1 := by rw [w168]; exact h163
  have h170 : x_at M167 a151 1 (0 : Int32) = true := by rw [w168]; exact h164
  have h171 : x_at M167 a151 1 (1 : Int32) = true := by rw [w168]; exact h165
  have h172 : x_at M167 a151 1 (2 : Int32) = true := by rw [w168]; exact h166
  refine x_iast' 161 dX9_init_161 h166 w168 ?_
  refine x_dup 162 dX9_init_162 rfl ?_
  refine x_iconst 163 (3 : Int32) dX9_init_163 (by decide) ?_
  refine x_bipush 164 (110 : Int32) dX9_init_164 (by decide) ?_
  obtain ⟨h173, H⟩ := x_ckp H
  obtain ⟨M174, w175, H⟩ := x_lt_of H
  have h176 : x_tag M174 a151 = 1 := by rw [w175]; exact h169
  have h177 : x_at M174 a151 1 (0 : Int32) = true := by rw [w175]; exact h170
  have h178 : x_at M174 a151 1 (1 : Int32) = true := by rw [w175]; exact h171
  have h179 : x_at M174 a151 1 (2 : Int32) = true := by rw [w175]; exact h172
  have h180 : x_at M174 a151 1 (3 : Int32) = true := by rw [w175]; exact h173
  refine x_iast' 166 dX9_init_166 h173 w175 ?_
  refine x_dup 167 dX9_init_167 rfl ?_
  refine x_iconst 168 (4 : Int32) dX9_init_168 (by decide) ?_
  refine x_bipush 169 (116 : Int32) dX9_init_169 (by decide) ?_
  obtain ⟨h181, H⟩ := x_ckp H
  obtain ⟨M182, w183, H⟩ := x_lt_of H
  have h184 : x_tag M182 a151 = 1 := by rw [w183]; exact h176
  have h185 : x_at M182 a151 1 (0 : Int32) = true := by rw [w183]; exact h177
  have h186 : x_at M182 a151 1 (1 : Int32) = true := by rw [w183]; exact h178
  have h187 : x_at M182 a151 1 (2 : Int32) = true := by rw [w183]; exact h179
  have h188 : x_at M182 a151 1 (3 : Int32) = true := by rw [w183]; exact h180
  have h189 : x_at M182 a151 1 (4 : Int32) = true := by rw [w183]; exact h181
  refine x_iast' 171 dX9_init_171 h181 w183 ?_
  refine x_dup 172 dX9_init_172 rfl ?_
  refine x_iconst 173 (5 : Int32) dX9_init_173 (by decide) ?_
  refine x_bipush 174 (101 : Int32) dX9_init_174 (by decide) ?_
  obtain ⟨h190, H⟩ := x_ckp H
  obtain ⟨M191, w192, H⟩ := x_lt_of H
  have h193 : x_tag M191 a151 = 1 := by rw [w192]; exact h184
  have h194 : x_at M191 a151 1 (0 : Int32) = true := by rw [w192]; exact h185
  have h195 : x_at M191 a151 1 (1 : Int32) = true := by rw [w192]; exact h186
  have h196 : x_at M191 a151 1 (2 : Int32) = true := by rw [w192]; exact h187
  have h197 : x_at M191 a151 1 (3 : Int32) = true := by rw [w192]; exact h188
  have h198 : x_at M191 a151 1 (4 : Int32) = true := by rw [w192]; exact h189
  have h199 : x_at M191 a151 1 (5 : Int32) = true := by rw [w192]; exact h190
  refine x_iast' 176 dX9_init_176 h190 w192 ?_
  refine x_dup 177 dX9_init_177 rfl ?_
  refine x_bipush 178 (6 : Int32) dX9_init_178 (by decide) ?_
  refine x_bipush 180 (114 : Int32) dX9_init_180 (by decide) ?_
  obtain ⟨h200, H⟩ := x_ckp H
  obtain ⟨M201, w202, H⟩ := x_lt_of H
  have h203 : x_tag M201 a151 = 1 := by rw [w202]; exact h193
  have h204 : x_at M201 a151 1 (0 : Int32) = true := by rw [w202]; exact h194
  have h205 : x_at M201 a151 1 (1 : Int32) = true := by rw [w202]; exact h195
  have h206 : x_at M201 a151 1 (2 : Int32) = true := by rw [w202]; exact h196
  have h207 : x_at M201 a151 1 (3 : Int32) = true := by rw [w202]; exact h197
  have h208 : x_at M201 a151 1 (4 : Int32) = true := by rw [w202]; exact h198
  have h209 : x_at M201 a151 1 (5 : Int32) = true := by rw [w202]; exact h199
  have h210 : x_at M201 a151 1 (6 : Int32) = true := by rw [w202]; exact h200
  refine x_iast' 182 dX9_init_182 h200 w202 ?_
  refine x_dup 183 dX9_init_183 rfl ?_
  refine x_bipush 184 (7 : Int32) dX9_init_184 (by decide) ?_
  refine x_bipush 186 (32 : Int32) dX9_init_186 (by decide) ?_
  obtain ⟨h211, H⟩ := x_ckp H
  obtain ⟨M212, w213, H⟩ := x_lt_of H
  have h214 : x_tag M212 a151 = 1 := by rw [w213]; exact h203
  have h215 : x_at M212 a151 1 (0 : Int32) = true := by rw [w213]; exact h204
  have h216 : x_at M212 a151 1 (1 : Int32) = true := by rw [w213]; exact h205
  have h217 : x_at M212 a151 1 (2 : Int32) = true := by rw [w213]; exact h206
  have h218 : x_at M212 a151 1 (3 : Int32) = true := by rw [w213]; exact h207
  have h219 : x_at M212 a151 1 (4 : Int32) = true := by rw [w213]; exact h208
  have h220 : x_at M212 a151 1 (5 : Int32) = true := by rw [w213]; exact h209
  have h221 : x_at M212 a151 1 (6 : Int32) = true := by rw [w213]; exact h210
  have h222 : x_at M212 a151 1 (7 : Int32) = true := by rw [w213]; exact h211
  refine x_iast' 188 dX9_init_188 h211 w213 ?_
  refine x_dup 189 dX9_init_189 rfl ?_
  refine x_bipush 190 (8 : Int32) dX9_init_190 (by decide) ?_
  refine x_iconst 192 (0 : Int32) dX9_init_192 (by decide) ?_
  obtain ⟨h223, H⟩ := x_ckp H
  obtain ⟨M224, w225, H⟩ := x_lt_of H
  have h226 : x_tag M224 a151 = 1 := by rw [w225]; exact h214
  have h227 : x_at M224 a151 1 (0 : Int32) = true := by rw [w225]; exact h215
  have h228 : x_at M224 a151 1 (1 : Int32) = true := by rw [w225]; exact h216
  have h229 : x_at M224 a151 1 (2 : Int32) = true := by rw [w225]; exact h217
  have h230 : x_at M224 a151 1 (3 : Int32) = true := by rw [w225]; exact h218
  have h231 : x_at M224 a151 1 (4 : Int32) = true := by rw [w225]; exact h219
  have h232 : x_at M224 a151 1 (5 : Int32) = true := by rw [w225]; exact h220
  have h233 : x_at M224 a151 1 (6 : Int32) = true := by rw [w225]; exact h221
  have h234 : x_at M224 a151 1 (7 : Int32) = true := by rw [w225]; exact h222
  have h235 : x_at M224 a151 1 (8 : Int32) = true := by rw [w225]; exact h223
  refine x_iast' 193 dX9_init_193 h223 w225 ?_
  refine x_dup 194 dX9_init_194 rfl ?_
  refine x_bipush 195 (9 : Int32) dX9_init_195 (by decide) ?_
  refine x_bipush 197 (116 : Int32) dX9_init_197 (by decide) ?_
  obtain ⟨h236, H⟩ := x_ckp H
  obtain ⟨M237, w238, H⟩ := x_lt_of H
  have h239 : x_tag M237 a151 = 1 := by rw [w238]; exact h226
  have h240 : x_at M237 a151 1 (0 : Int32) = true := by rw [w238]; exact h227
  have h241 : x_at M237 a151 1 (1 : Int32) = true := by rw [w238]; exact h228
  have h242 : x_at M237 a151 1 (2 : Int32) = true := by rw [w238]; exact h229
  have h243 : x_at M237 a151 1 (3 : Int32) = true := by rw [w238]; exact h230
  have h244 : x_at M237 a151 1 (4 : Int32) = true := by rw [w238]; exact h231
  have h245 : x_at M237 a151 1 (5 : Int32) = true := by rw [w238]; exact h232
  have h246 : x_at M237 a151 1 (6 : Int32) = true := by rw [w238]; exact h233
  have h247 : x_at M237 a151 1 (7 : Int32) = true := by rw [w238]; exact h234
  have h248 : x_at M237 a151 1 (8 : Int32) = true := by rw [w238]; exact h235
  have h249 : x_at M237 a151 1 (9 : Int32) = true := by rw [w238]; exact h236
  refine x_iast' 199 dX9_init_199 h236 w238 ?_
  refine x_dup 200 dX9_init_200 rfl ?_
  refine x_bipush 201 (10 : Int32) dX9_init_201 (by decide) ?_
  refine x_bipush 203 (111 : Int32) dX9_init_203 (by decide) ?_
  obtain ⟨h250, H⟩ := x_ckp H
  obtain ⟨M251, w252, H⟩ := x_lt_of H
  have h253 : x_tag M251 a151 = 1 := by rw [w252]; exact h239
  have h254 : x_at M251 a151 1 (0 : Int32) = true := by rw [w252]; exact h240
  have h255 : x_at M251 a151 1 (1 : Int32) = true := by rw [w252]; exact h241
  have h256 : x_at M251 a151 1 (2 : Int32) = true := by rw [w252]; exact h242
  have h257 : x_at M251 a151 1 (3 : Int32) = true := by rw [w252]; exact h243
  have h258 : x_at M251 a151 1 (4 : Int32) = true := by rw [w252]; exact h244
  have h259 : x_at M251 a151 1 (5 : Int32) = true := by rw [w252]; exact h245
  have h260 : x_at M251 a151 1 (6 : Int32) = true := by rw [w252]; exact h246
  have h261 : x_at M251 a151 1 (7 : Int32) = true := by rw [w252]; exact h247
  have h262 : x_at M251 a151 1 (8 : Int32) = true := by rw [w252]; exact h248
  have h263 : x_at M251 a151 1 (9 : Int32) = true := by rw [w252]; exact h249
  have h264 : x_at M251 a151 1 (10 : Int32) = true := by rw [w252]; exact h250
  refine x_iast' 205 dX9_init_205 h250 w252 ?_
  refine x_dup 206 dX9_init_206 rfl ?_
  refine x_bipush 207 (11 : Int32) dX9_init_207 (by decide) ?_
  refine x_bipush 209 (32 : Int32) dX9_init_209 (by decide) ?_
  obtain ⟨h265, H⟩ := x_ckp H
  obtain ⟨M266, w267, H⟩ := x_lt_of H
  have h268 : x_tag M266 a151 = 1 := by rw [w267]; exact h253
  have h269 : x_at M266 a151 1 (0 : Int32) = true := by rw [w267]; exact h254
  have h270 : x_at M266 a151 1 (1 : Int32) = true := by rw [w267]; exact h255
  have h271 : x_at M266 a151 1 (2 : Int32) = true := by rw [w267]; exact h256
  have h272 : x_at M266 a151 1 (3 : Int32) = true := by rw [w267]; exact h257
  have h273 : x_at M266 a151 1 (4 : Int32) = true := by rw [w267]; exact h258
  have h274 : x_at M266 a151 1 (5 : Int32) = true := by rw [w267]; exact h259
  have h275 : x_at M266 a151 1 (6 : Int32) = true := by rw [w267]; exact h260
  have h276 : x_at M266 a151 1 (7 : Int32) = true := by rw [w267]; exact h261
  have h277 : x_at M266 a151 1 (8 : Int32) = true := by rw [w267]; exact h262
  have h278 : x_at M266 a151 1 (9 : Int32) = true := by rw [w267]; exact h263
  have h279 : x_at M266 a151 1 (10 : Int32) = true := by rw [w267]; exact h264
  have h280 : x_at M266 a151 1 (11 : Int32) = true := by rw [w267]; exact h265
  refine x_iast' 211 dX9_init_211 h265 w267 ?_
  refine x_dup 212 dX9_init_212 rfl ?_
  refine x_bipush 213 (12 : Int32) dX9_init_213 (by decide) ?_
  refine x_iconst 215 (0 : Int32) dX9_init_215 (by decide) ?_
  obtain ⟨h281, H⟩ := x_ckp H
  obtain ⟨M282, w283, H⟩ := x_lt_of H
  have h284 : x_tag M282 a151 = 1 := by rw [w283]; exact h268
  have h285 : x_at M282 a151 1 (0 : Int32) = true := by rw [w283]; exact h269
  have h286 : x_at M282 a151 1 (1 : Int32) = true := by rw [w283]; exact h270
  have h287 : x_at M282 a151 1 (2 : Int32) = true := by rw [w283]; exact h271
  have h288 : x_at M282 a151 1 (3 : Int32) = true := by rw [w283]; exact h272
  have h289 : x_at M282 a151 1 (4 : Int32) = true := by rw [w283]; exact h273
  have h290 : x_at M282 a151 1 (5 : Int32) = true := by rw [w283]; exact h274
  have h291 : x_at M282 a151 1 (6 : Int32) = true := by rw [w283]; exact h275
  have h292 : x_at M282 a151 1 (7 : Int32) = true := by rw [w283]; exact h276
  have h293 : x_at M282 a151 1 (8 : Int32) = true := by rw [w283]; exact h277
  have h294 : x_at M282 a151 1 (9 : Int32) = true := by rw [w283]; exact h278
  have h295 : x_at M282 a151 1 (10 : Int32) = true := by rw [w283]; exact h279
  have h296 : x_at M282 a151 1 (11 : Int32) = true := by rw [w283]; exact h280
  have h297 : x_at M282 a151 1 (12 : Int32) = true := by rw [w283]; exact h281
  refine x_iast' 216 dX9_init_216 h281 w283 ?_
  refine x_dup 217 dX9_init_217 rfl ?_
  refine x_bipush 218 (13 : Int32) dX9_init_218 (by decide) ?_
  refine x_bipush 220 (97 : Int32) dX9_init_220 (by decide) ?_
  obtain ⟨h298, H⟩ := x_ckp H
  obtain ⟨M299, w300, H⟩ := x_lt_of H
  have h301 : x_tag M299 a151 = 1 := by rw [w300]; exact h284
  have h302 : x_at M299 a151 1 (0 : Int32) = true := by rw [w300]; exact h285
  have h303 : x_at M299 a151 1 (1 : Int32) = true := by rw [w300]; exact h286
  have h304 : x_at M299 a151 1 (2 : Int32) = true := by rw [w300]; exact h287
  have h305 : x_at M299 a151 1 (3 : Int32) = true := by rw [w300]; exact h288
  have h306 : x_at M299 a151 1 (4 : Int32) = true := by rw [w300]; exact h289
  have h307 : x_at M299 a151 1 (5 : Int32) = true := by rw [w300]; exact h290
  have h308 : x_at M299 a151 1 (6 : Int32) = true := by rw [w300]; exact h291
  have h309 : x_at M299 a151 1 (7 : Int32) = true := by rw [w300]; exact h292
  have h310 : x_at M299 a151 1 (8 : Int32) = true := by rw [w300]; exact h293
  have h311 : x_at M299 a151 1 (9 : Int32) = true := by rw [w300]; exact h294
  have h312 : x_at M299 a151 1 (10 : Int32) = true := by rw [w300]; exact h295
  have h313 : x_at M299 a151 1 (11 : Int32) = true := by rw [w300]; exact h296
  have h314 : x_at M299 a151 1 (12 : Int32) = true := by rw [w300]; exact h297
  have h315 : x_at M299 a151 1 (13 : Int32) = true := by rw [w300]; exact h298
  refine x_iast' 222 dX9_init_222 h298 w300 ?_
  refine x_dup 223 dX9_init_223 rfl ?_
  refine x_bipush 224 (14 : Int32) dX9_init_224 (by decide) ?_
  refine x_bipush 226 (112 : Int32) dX9_init_226 (by decide) ?_
  obtain ⟨h316, H⟩ := x_ckp H
  obtain ⟨M317, w318, H⟩ := x_lt_of H
  have h319 : x_tag M317 a151 = 1 := by rw [w318]; exact h301
  have h320 : x_at M317 a151 1 (0 : Int32) = true := by rw [w318]; exact h302
  have h321 : x_at M317 a151 1 (1 : Int32) = true := by rw [w318]; exact h303
  have h322 : x_at M317 a151 1 (2 : Int32) = true := by rw [w318]; exact h304
  have h323 : x_at M317 a151 1 (3 : Int32) = true := by rw [w318]; exact h305
  have h324 : x_at M317 a151 1 (4 : Int32) = true := by rw [w318]; exact h306
  have h325 : x_at M317 a151 1 (5 : Int32) = true := by rw [w318]; exact h307
  have h326 : x_at M317 a151 1 (6 : Int32) = true := by rw [w318]; exact h308
  have h327 : x_at M317 a151 1 (7 : Int32) = true := by rw [w318]; exact h309
  have h328 : x_at M317 a151 1 (8 : Int32) = true := by rw [w318]; exact h310
  have h329 : x_at M317 a151 1 (9 : Int32) = true := by rw [w318]; exact h311
  have h330 : x_at M317 a151 1 (10 : Int32) = true := by rw [w318]; exact h312
  have h331 : x_at M317 a151 1 (11 : Int32) = true := by rw [w318]; exact h313
  have h332 : x_at M317 a151 1 (12 : Int32) = true := by rw [w318]; exact h314
  have h333 : x_at M317 a151 1 (13 : Int32) = true := by rw [w318]; exact h315
  have h334 : x_at M317 a151 1 (14 : Int32) = true := by rw [w318]; exact h316
  refine x_iast' 228 dX9_init_228 h316 w318 ?_
  refine x_dup 229 dX9_init_229 rfl ?_
  refine x_bipush 230 (15 : Int32) dX9_init_230 (by decide) ?_
  refine x_bipush 232 (97 : Int32) dX9_init_232 (by decide) ?_
  obtain ⟨h335, H⟩ := x_ckp H
  obtain ⟨M336, w337, H⟩ := x_lt_of H
  have h338 : x_tag M336 a151 = 1 := by rw [w337]; exact h319
  have h339 : x_at M336 a151 1 (0 : Int32) = true := by rw [w337]; exact h320
  have h340 : x_at M336 a151 1 (1 : Int32) = true := by rw [w337]; exact h321
  have h341 : x_at M336 a151 1 (2 : Int32) = true := by rw [w337]; exact h322
  have h342 : x_at M336 a151 1 (3 : Int32) = true := by rw [w337]; exact h323
  have h343 : x_at M336 a151 1 (4 : Int32) = true := by rw [w337]; exact h324
  have h344 : x_at M336 a151 1 (5 : Int32) = true := by rw [w337]; exact h325
  have h345 : x_at M336 a151 1 (6 : Int32) = true := by rw [w337]; exact h326
  have h346 : x_at M336 a151 1 (7 : Int32) = true := by rw [w337]; exact h327
  have h347 : x_at M336 a151 1 (8 : Int32) = true := by rw [w337]; exact h328
  have h348 : x_at M336 a151 1 (9 : Int32) = true := by rw [w337]; exact h329
  have h349 : x_at M336 a151 1 (10 : Int32) = true := by rw [w337]; exact h330
  have h350 : x_at M336 a151 1 (11 : Int32) = true := by rw [w337]; exact h331
  have h351 : x_at M336 a151 1 (12 : Int32) = true := by rw [w337]; exact h332
  have h352 : x_at M336 a151 1 (13 : Int32) = true := by rw [w337]; exact h333
  have h353 : x_at M336 a151 1 (14 : Int32) = true := by rw [w337]; exact h334
  have h354 : x_at M336 a151 1 (15 : Int32) = true := by rw [w337]; exact h335
  refine x_iast' 234 dX9_init_234 h335 w337 ?_
  refine x_dup 235 dX9_init_235 rfl ?_
  refine x_bipush 236 (16 : Int32) dX9_init_236 (by decide) ?_
  refine x_bipush 238 (114 : Int32) dX9_init_238 (by decide) ?_
  obtain ⟨h355, H⟩ := x_ckp H
  obtain ⟨M356, w357, H⟩ := x_lt_of H
  have h358 : x_tag M356 a151 = 1 := by rw [w357]; exact h338
  have h359 : x_at M356 a151 1 (0 : Int32) = true := by rw [w357]; exact h339
  have h360 : x_at M356 a151 1 (1 : Int32) = true := by rw [w357]; exact h340
  have h361 : x_at M356 a151 1 (2 : Int32) = true := by rw [w357]; exact h341
  have h362 : x_at M356 a151 1 (3 : Int32) = true := by rw [w357]; exact h342
  have h363 : x_at M356 a151 1 (4 : Int32) = true := by rw [w357]; exact h343
  have h364 : x_at M356 a151 1 (5 : Int32) = true := by rw [w357]; exact h344
  have h365 : x_at M356 a151 1 (6 : Int32) = true := by rw [w357]; exact h345
  have h366 : x_at M356 a151 1 (7 : Int32) = true := by rw [w357]; exact h346
  have h367 : x_at M356 a151 1 (8 : Int32) = true := by rw [w357]; exact h347
  have h368 : x_at M356 a151 1 (9 : Int32) = true := by rw [w357]; exact h348
  have h369 : x_at M356 a151 1 (10 : Int32) = true := by rw [w357]; exact h349
  have h370 : x_at M356 a151 1 (11 : Int32) = true := by rw [w357]; exact h350
  have h371 : x_at M356 a151 1 (12 : Int32) = true := by rw [w357]; exact h351
  have h372 : x_at M356 a151 1 (13 : Int32) = true := by rw [w357]; exact h352
  have h373 : x_at M356 a151 1 (14 : Int32) = true := by rw [w357]; exact h353
  have h374 : x_at M356 a151 1 (15 : Int32) = true := by rw [w357]; exact h354
  have h375 : x_at M356 a151 1 (16 : Int32) = true := by rw [w357]; exact h355
  refine x_iast' 240 dX9_init_240 h355 w357 ?_
  refine x_dup 241 dX9_init_241 rfl ?_
  refine x_bipush 242 (17 : Int32) dX9_init_242 (by decide) ?_
  refine x_bipush 244 (116 : Int32) dX9_init_244 (by decide) ?_
  obtain ⟨h376, H⟩ := x_ckp H
  obtain ⟨M377, w378, H⟩ := x_lt_of H
  have h379 : x_tag M377 a151 = 1 := by rw [w378]; exact h358
  have h380 : x_at M377 a151 1 (0 : Int32) = true := by rw [w378]; exact h359
  have h381 : x_at M377 a151 1 (1 : Int32) = true := by rw [w378]; exact h360
  have h382 : x_at M377 a151 1 (2 : Int32) = true := by rw [w378]; exact h361
  have h383 : x_at M377 a151 1 (3 : Int32) = true := by rw [w378]; exact h362
  have h384 : x_at M377 a151 1 (4 : Int32) = true := by rw [w378]; exact h363
  have h385 : x_at M377 a151 1 (5 : Int32) = true := by rw [w378]; exact h364
  have h386 : x_at M377 a151 1 (6 : Int32) = true := by rw [w378]; exact h365
  have h387 : x_at M377 a151 1 (7 : Int32) = true := by rw [w378]; exact h366
  have h388 : x_at M377 a151 1 (8 : Int32) = true := by rw [w378]; exact h367
  have h389 : x_at M377 a151 1 (9 : Int32) = true := by rw [w378]; exact h368
  have h390 : x_at M377 a151 1 (10 : Int32) = true := by rw [w378]; exact h369
  have h391 : x_at M377 a151 1 (11 : Int32) = true := by rw [w378]; exact h370
  have h392 : x_at M377 a151 1 (12 : Int32) = true := by rw [w378]; exact h371
  have h393 : x_at M377 a151 1 (13 : Int32) = true := by rw [w378]; exact h372
  have h394 : x_at M377 a151 1 (14 : Int32) = true := by rw [w378]; exact h373
  have h395 : x_at M377 a151 1 (15 : Int32) = true := by rw [w378]; exact h374
  have h396 : x_at M377 a151 1 (16 : Int32) = true := by rw [w378]; exact h375
  have h397 : x_at M377 a151 1 (17 : Int32) = true := by rw [w378]; exact h376
  refine x_iast' 246 dX9_init_246 h376 w378 ?_
  refine x_dup 247 dX9_init_247 rfl ?_
  refine x_bipush 248 (18 : Int32) dX9_init_248 (by decide) ?_
  refine x_bipush 250 (32 : Int32) dX9_init_250 (by decide) ?_
  obtain ⟨h398, H⟩ := x_ckp H
  obtain ⟨M399, w400, H⟩ := x_lt_of H
  have h401 : x_tag M399 a151 = 1 := by rw [w400]; exact h379
  have h402 : x_at M399 a151 1 (0 : Int32) = true := by rw [w400]; exact h380
  have h403 : x_at M399 a151 1 (1 : Int32) = true := by rw [w400]; exact h381
  have h404 : x_at M399 a151 1 (2 : Int32) = true := by rw [w400]; exact h382
  have h405 : x_at M399 a151 1 (3 : Int32) = true := by rw [w400]; exact h383
  have h406 : x_at M399 a151 1 (4 : Int32) = true := by rw [w400]; exact h384
  have h407 : x_at M399 a151 1 (5 : Int32) = true := by rw [w400]; exact h385
  have h408 : x_at M399 a151 1 (6 : Int32) = true := by rw [w400]; exact h386
  have h409 : x_at M399 a151 1 (7 : Int32) = true := by rw [w400]; exact h387
  have h410 : x_at M399 a151 1 (8 : Int32) = true := by rw [w400]; exact h388
  have h411 : x_at M399 a151 1 (9 : Int32) = true := by rw [w400]; exact h389
  have h412 : x_at M399 a151 1 (10 : Int32) = true := by rw [w400]; exact h390
  have h413 : x_at M399 a151 1 (11 : Int32) = true := by rw [w400]; exact h391
  have h414 : x_at M399 a151 1 (12 : Int32) = true := by rw [w400]; exact h392
  have h415 : x_at M399 a151 1 (13 : Int32) = true := by rw [w400]; exact h393
  have h416 : x_at M399 a151 1 (14 : Int32) = true := by rw [w400]; exact h394
  have h417 : x_at M399 a151 1 (15 : Int32) = true := by rw [w400]; exact h395
  have h418 : x_at M399 a151 1 (16 : Int32) = true := by rw [w400]; exact h396
  have h419 : x_at M399 a151 1 (17 : Int32) = true := by rw [w400]; exact h397
  have h420 : x_at M399 a151 1 (18 : Int32) = true := by rw [w400]; exact h398
  refine x_iast' 252 dX9_init_252 h398 w400 ?_
  refine x_dup 253 dX9_init_253 rfl ?_
  refine x_bipush 254 (19 : Int32) dX9_init_254 (by decide) ?_
  refine x_iconst 256 (0 : Int32) dX9_init_256 (by decide) ?_
  obtain ⟨h421, H⟩ := x_ckp H
  obtain ⟨M422, w423, H⟩ := x_lt_of H
  have h424 : x_tag M422 a151 = 1 := by rw [w423]; exact h401
  have h425 : x_at M422 a151 1 (0 : Int32) = true := by rw [w423]; exact h402
  have h426 : x_at M422 a151 1 (1 : Int32) = true := by rw [w423]; exact h403
  have h427 : x_at M422 a151 1 (2 : Int32) = true := by rw [w423]; exact h404
  have h428 : x_at M422 a151 1 (3 : Int32) = true := by rw [w423]; exact h405
  have h429 : x_at M422 a151 1 (4 : Int32) = true := by rw [w423]; exact h406
  have h430 : x_at M422 a151 1 (5 : Int32) = true := by rw [w423]; exact h407
  have h431 : x_at M422 a151 1 (6 : Int32) = true := by rw [w423]; exact h408
  have h432 : x_at M422 a151 1 (7 : Int32) = true := by rw [w423]; exact h409
  have h433 : x_at M422 a151 1 (8 : Int32) = true := by rw [w423]; exact h410
  have h434 : x_at M422 a151 1 (9 : Int32) = true := by rw [w423]; exact h411
  have h435 : x_at M422 a151 1 (10 : Int32) = true := by rw [w423]; exact h412
  have h436 : x_at M422 a151 1 (11 : Int32) = true := by rw [w423]; exact h413
  have h437 : x_at M422 a151 1 (12 : Int32) = true := by rw [w423]; exact h414
  have h438 : x_at M422 a151 1 (13 : Int32) = true := by rw [w423]; exact h415
  have h439 : x_at M422 a151 1 (14 : Int32) = true := by rw [w423]; exact h416
  have h440 : x_at M422 a151 1 (15 : Int32) = true := by rw [w423]; exact h417
  have h441 : x_at M422 a151 1 (16 : Int32) = true := by rw [w423]; exact h418
  have h442 : x_at M422 a151 1 (17 : Int32) = true := by rw [w423]; exact h419
  have h443 : x_at M422 a151 1 (18 : Int32) = true := by rw [w423]; exact h420
  have h444 : x_at M422 a151 1 (19 : Int32) = true := by rw [w423]; exact h421
  refine x_iast' 257 dX9_init_257 h421 w423 ?_
  refine x_dup 258 dX9_init_258 rfl ?_
  refine x_bipush 259 (20 : Int32) dX9_init_259 (by decide) ?_
  refine x_bipush 261 (111 : Int32) dX9_init_261 (by decide) ?_
  obtain ⟨h445, H⟩ := x_ckp H
  obtain ⟨M446, w447, H⟩ := x_lt_of H
  have h448 : x_tag M446 a151 = 1 := by rw [w447]; exact h424
  have h449 : x_at M446 a151 1 (0 : Int32) = true := by rw [w447]; exact h425
  have h450 : x_at M446 a151 1 (1 : Int32) = true := by rw [w447]; exact h426
  have h451 : x_at M446 a151 1 (2 : Int32) = true := by rw [w447]; exact h427
  have h452 : x_at M446 a151 1 (3 : Int32) = true := by rw [w447]; exact h428
  have h453 : x_at M446 a151 1 (4 : Int32) = true := by rw [w447]; exact h429
  have h454 : x_at M446 a151 1 (5 : Int32) = true := by rw [w447]; exact h430
  have h455 : x_at M446 a151 1 (6 : Int32) = true := by rw [w447]; exact h431
  have h456 : x_at M446 a151 1 (7 : Int32) = true := by rw [w447]; exact h432
  have h457 : x_at M446 a151 1 (8 : Int32) = true := by rw [w447]; exact h433
  have h458 : x_at M446 a151 1 (9 : Int32) = true := by rw [w447]; exact h434
  have h459 : x_at M446 a151 1 (10 : Int32) = true := by rw [w447]; exact h435
  have h460 : x_at M446 a151 1 (11 : Int32) = true := by rw [w447]; exact h436
  have h461 : x_at M446 a151 1 (12 : Int32) = true := by rw [w447]; exact h437
  have h462 : x_at M446 a151 1 (13 : Int32) = true := by rw [w447]; exact h438
  have h463 : x_at M446 a151 1 (14 : Int32) = true := by rw [w447]; exact h439
  have h464 : x_at M446 a151 1 (15 : Int32) = true := by rw [w447]; exact h440
  have h465 : x_at M446 a151 1 (16 : Int32) = true := by rw [w447]; exact h441
  have h466 : x_at M446 a151 1 (17 : Int32) = true := by rw [w447]; exact h442
  have h467 : x_at M446 a151 1 (18 : Int32) = true := by rw [w447]; exact h443
  have h468 : x_at M446 a151 1 (19 : Int32) = true := by rw [w447]; exact h444
  have h469 : x_at M446 a151 1 (20 : Int32) = true := by rw [w447]; exact h445
  refine x_iast' 263 dX9_init_263 h445 w447 ?_
  refine x_dup 264 dX9_init_264 rfl ?_
  refine x_bipush 265 (21 : Int32) dX9_init_265 (by decide) ?_
  refine x_bipush 267 (100 : Int32) dX9_init_267 (by decide) ?_
  obtain ⟨h470, H⟩ := x_ckp H
  obtain ⟨M471, w472, H⟩ := x_lt_of H
  have h473 : x_tag M471 a151 = 1 := by rw [w472]; exact h448
  have h474 : x_at M471 a151 1 (0 : Int32) = true := by rw [w472]; exact h449
  have h475 : x_at M471 a151 1 (1 : Int32) = true := by rw [w472]; exact h450
  have h476 : x_at M471 a151 1 (2 : Int32) = true := by rw [w472]; exact h451
  have h477 : x_at M471 a151 1 (3 : Int32) = true := by rw [w472]; exact h452
  have h478 : x_at M471 a151 1 (4 : Int32) = true := by rw [w472]; exact h453
  have h479 : x_at M471 a151 1 (5 : Int32) = true := by rw [w472]; exact h454
  have h480 : x_at M471 a151 1 (6 : Int32) = true := by rw [w472]; exact h455
  have h481 : x_at M471 a151 1 (7 : Int32) = true := by rw [w472]; exact h456
  have h482 : x_at M471 a151 1 (8 : Int32) = true := by rw [w472]; exact h457
  have h483 : x_at M471 a151 1 (9 : Int32) = true := by rw [w472]; exact h458
  have h484 : x_at M471 a151 1 (10 : Int32) = true := by rw [w472]; exact h459
  have h485 : x_at M471 a151 1 (11 : Int32) = true := by rw [w472]; exact h460
  have h486 : x_at M471 a151 1 (12 : Int32) = true := by rw [w472]; exact h461
  have h487 : x_at M471 a151 1 (13 : Int32) = true := by rw [w472]; exact h462
  have h488 : x_at M471 a151 1 (14 : Int32) = true := by rw [w472]; exact h463
  have h489 : x_at M471 a151 1 (15 : Int32) = true := by rw [w472]; exact h464
  have h490 : x_at M471 a151 1 (16 : Int32) = true := by rw [w472]; exact h465
  have h491 : x_at M471 a151 1 (17 : Int32) = true := by rw [w472]; exact h466
  have h492 : x_at M471 a151 1 (18 : Int32) = true := by rw [w472]; exact h467
  have h493 : x_at M471 a151 1 (19 : Int32) = true := by rw [w472]; exact h468
  have h494 : x_at M471 a151 1 (20 : Int32) = true := by rw [w472]; exact h469
  have h495 : x_at M471 a151 1 (21 : Int32) = true := by rw [w472]; exact h470
  refine x_iast' 269 dX9_init_269 h470 w472 ?_
  refine x_dup 270 dX9_init_270 rfl ?_
  refine x_bipush 271 (22 : Int32) dX9_init_271 (by decide) ?_
  refine x_bipush 273 (100 : Int32) dX9_init_273 (by decide) ?_
  obtain ⟨h496, H⟩ := x_ckp H
  obtain ⟨M497, w498, H⟩ := x_lt_of H
  have h499 : x_tag M497 a151 = 1 := by rw [w498]; exact h473
  have h500 : x_at M497 a151 1 (0 : Int32) = true := by rw [w498]; exact h474
  have h501 : x_at M497 a151 1 (1 : Int32) = true := by rw [w498]; exact h475
  have h502 : x_at M497 a151 1 (2 : Int32) = true := by rw [w498]; exact h476
  have h503 : x_at M497 a151 1 (3 : Int32) = true := by rw [w498]; exact h477
  have h504 : x_at M497 a151 1 (4 : Int32) = true := by rw [w498]; exact h478
  have h505 : x_at M497 a151 1 (5 : Int32) = true := by rw [w498]; exact h479
  have h506 : x_at M497 a151 1 (6 : Int32) = true := by rw [w498]; exact h480
  have h507 : x_at M497 a151 1 (7 : Int32) = true := by rw [w498]; exact h481
  have h508 : x_at M497 a151 1 (8 : Int32) = true := by rw [w498]; exact h482
  have h509 : x_at M497 a151 1 (9 : Int32) = true := by rw [w498]; exact h483
  have h510 : x_at M497 a151 1 (10 : Int32) = true := by rw [w498]; exact h484
  have h511 : x_at M497 a151 1 (11 : Int32) = true := by rw [w498]; exact h485
  have h512 : x_at M497 a151 1 (12 : Int32) = true := by rw [w498]; exact h486
  have h513 : x_at M497 a151 1 (13 : Int32) = true := by rw [w498]; exact h487
  have h514 : x_at M497 a151 1 (14 : Int32) = true := by rw [w498]; exact h488
  have h515 : x_at M497 a151 1 (15 : Int32) = true := by rw [w498]; exact h489
  have h516 : x_at M497 a151 1 (16 : Int32) = true := by rw [w498]; exact h490
  have h517 : x_at M497 a151 1 (17 : Int32) = true := by rw [w498]; exact h491
  have h518 : x_at M497 a151 1 (18 : Int32) = true := by rw [w498]; exact h492
  have h519 : x_at M497 a151 1 (19 : Int32) = true := by rw [w498]; exact h493
  have h520 : x_at M497 a151 1 (20 : Int32) = true := by rw [w498]; exact h494
  have h521 : x_at M497 a151 1 (21 : Int32) = true := by rw [w498]; exact h495
  have h522 : x_at M497 a151 1 (22 : Int32) = true := by rw [w498]; exact h496
  refine x_iast' 275 dX9_init_275 h496 w498 ?_
  refine x_dup 276 dX9_init_276 rfl ?_
  refine x_bipush 277 (23 : Int32) dX9_init_277 (by decide) ?_
  refine x_bipush 279 (115 : Int32) dX9_init_279 (by decide) ?_
  obtain ⟨h523, H⟩ := x_ckp H
  obtain ⟨M524, w525, H⟩ := x_lt_of H
  have h526 : x_tag M524 a151 = 1 := by rw [w525]; exact h499
  have h527 : x_at M524 a151 1 (0 : Int32) = true := by rw [w525]; exact h500
  have h528 : x_at M524 a151 1 (1 : Int32) = true := by rw [w525]; exact h501
  have h529 : x_at M524 a151 1 (2 : Int32) = true := by rw [w525]; exact h502
  have h530 : x_at M524 a151 1 (3 : Int32) = true := by rw [w525]; exact h503
  have h531 : x_at M524 a151 1 (4 : Int32) = true := by rw [w525]; exact h504
  have h532 : x_at M524 a151 1 (5 : Int32) = true := by rw [w525]; exact h505
  have h533 : x_at M524 a151 1 (6 : Int32) = true := by rw [w525]; exact h506
  have h534 : x_at M524 a151 1 (7 : Int32) = true := by rw [w525]; exact h507
  have h535 : x_at M524 a151 1 (8 : Int32) = true := by rw [w525]; exact h508
  have h536 : x_at M524 a151 1 (9 : Int32) = true := by rw [w525]; exact h509
  have h537 : x_at M524 a151 1 (10 : Int32) = true := by rw [w525]; exact h510
  have h538 : x_at M524 a151 1 (11 : Int32) = true := by rw [w525]; exact h511
  have h539 : x_at M524 a151 1 (12 : Int32) = true := by rw [w525]; exact h512
  have h540 : x_at M524 a151 1 (13 : Int32) = true := by rw [w525]; exact h513
  have h541 : x_at M524 a151 1 (14 : Int32) = true := by rw [w525]; exact h514
  have h542 : x_at M524 a151 1 (15 : Int32) = true := by rw [w525]; exact h515
  have h543 : x_at M524 a151 1 (16 : Int32) = true := by rw [w525]; exact h516
  have h544 : x_at M524 a151 1 (17 : Int32) = true := by rw [w525]; exact h517
  have h545 : x_at M524 a151 1 (18 : Int32) = true := by rw [w525]; exact h518
  have h546 : x_at M524 a151 1 (19 : Int32) = true := by rw [w525]; exact h519
  have h547 : x_at M524 a151 1 (20 : Int32) = true := by rw [w525]; exact h520
  have h548 : x_at M524 a151 1 (21 : Int32) = true := by rw [w525]; exact h521
  have h549 : x_at M524 a151 1 (22 : Int32) = true := by rw [w525]; exact h522
  have h550 : x_at M524 a151 1 (23 : Int32) = true := by rw [w525]; exact h523
  refine x_iast' 281 dX9_init_281 h523 w525 ?_
  refine x_dup 282 dX9_init_282 rfl ?_
  refine x_bipush 283 (24 : Int32) dX9_init_283 (by decide) ?_
  refine x_bipush 285 (32 : Int32) dX9_init_285 (by decide) ?_
  obtain ⟨h551, H⟩ := x_ckp H
  obtain ⟨M552, w553, H⟩ := x_lt_of H
  have h554 : x_tag M552 a151 = 1 := by rw [w553]; exact h526
  have h555 : x_at M552 a151 1 (0 : Int32) = true := by rw [w553]; exact h527
  have h556 : x_at M552 a151 1 (1 : Int32) = true := by rw [w553]; exact h528
  have h557 : x_at M552 a151 1 (2 : Int32) = true := by rw [w553]; exact h529
  have h558 : x_at M552 a151 1 (3 : Int32) = true := by rw [w553]; exact h530
  have h559 : x_at M552 a151 1 (4 : Int32) = true := by rw [w553]; exact h531
  have h560 : x_at M552 a151 1 (5 : Int32) = true := by rw [w553]; exact h532
  have h561 : x_at M552 a151 1 (6 : Int32) = true := by rw [w553]; exact h533
  have h562 : x_at M552 a151 1 (7 : Int32) = true := by rw [w553]; exact h534
  have h563 : x_at M552 a151 1 (8 : Int32) = true := by rw [w553]; exact h535
  have h564 : x_at M552 a151 1 (9 : Int32) = true := by rw [w553]; exact h536
  have h565 : x_at M552 a151 1 (10 : Int32) = true := by rw [w553]; exact h537
  have h566 : x_at M552 a151 1 (11 : Int32) = true := by rw [w553]; exact h538
  have h567 : x_at M552 a151 1 (12 : Int32) = true := by rw [w553]; exact h539
  have h568 : x_at M552 a151 1 (13 : Int32) = true := by rw [w553]; exact h540
  have h569 : x_at M552 a151 1 (14 : Int32) = true := by rw [w553]; exact h541
  have h570 : x_at M552 a151 1 (15 : Int32) = true := by rw [w553]; exact h542
  have h571 : x_at M552 a151 1 (16 : Int32) = true := by rw [w553]; exact h543
  have h572 : x_at M552 a151 1 (17 : Int32) = true := by rw [w553]; exact h544
  have h573 : x_at M552 a151 1 (18 : Int32) = true := by rw [w553]; exact h545
  have h574 : x_at M552 a151 1 (19 : Int32) = true := by rw [w553]; exact h546
  have h575 : x_at M552 a151 1 (20 : Int32) = true := by rw [w553]; exact h547
  have h576 : x_at M552 a151 1 (21 : Int32) = true := by rw [w553]; exact h548
  have h577 : x_at M552 a151 1 (22 : Int32) = true := by rw [w553]; exact h549
  have h578 : x_at M552 a151 1 (23 : Int32) = true := by rw [w553]; exact h550
  have h579 : x_at M552 a151 1 (24 : Int32) = true := by rw [w553]; exact h551
  refine x_iast' 287 dX9_init_287 h551 w553 ?_
  refine x_dup 288 dX9_init_288 rfl ?_
  refine x_bipush 289 (25 : Int32) dX9_init_289 (by decide) ?_
  refine x_iconst 291 (0 : Int32) dX9_init_291 (by decide) ?_
  obtain ⟨h580, H⟩ := x_ckp H
  obtain ⟨M581, w582, H⟩ := x_lt_of H
  have h583 : x_tag M581 a151 = 1 := by rw [w582]; exact h554
  have h584 : x_at M581 a151 1 (0 : Int32) = true := by rw [w582]; exact h555
  have h585 : x_at M581 a151 1 (1 : Int32) = true := by rw [w582]; exact h556
  have h586 : x_at M581 a151 1 (2 : Int32) = true := by rw [w582]; exact h557
  have h587 : x_at M581 a151 1 (3 : Int32) = true := by rw [w582]; exact h558
  have h588 : x_at M581 a151 1 (4 : Int32) = true := by rw [w582]; exact h559
  have h589 : x_at M581 a151 1 (5 : Int32) = true := by rw [w582]; exact h560
  have h590 : x_at M581 a151 1 (6 : Int32) = true := by rw [w582]; exact h561
  have h591 : x_at M581 a151 1 (7 : Int32) = true := by rw [w582]; exact h562
  have h592 : x_at M581 a151 1 (8 : Int32) = true := by rw [w582]; exact h563
  have h593 : x_at M581 a151 1 (9 : Int32) = true := by rw [w582]; exact h564
  have h594 : x_at M581 a151 1 (10 : Int32) = true := by rw [w582]; exact h565
  have h595 : x_at M581 a151 1 (11 : Int32) = true := by rw [w582]; exact h566
  have h596 : x_at M581 a151 1 (12 : Int32) = true := by rw [w582]; exact h567
  have h597 : x_at M581 a151 1 (13 : Int32) = true := by rw [w582]; exact h568
  have h598 : x_at M581 a151 1 (14 : Int32) = true := by rw [w582]; exact h569
  have h599 : x_at M581 a151 1 (15 : Int32) = true := by rw [w582]; exact h570
  have h600 : x_at M581 a151 1 (16 : Int32) = true := by rw [w582]; exact h571
  have h601 : x_at M581 a151 1 (17 : Int32) = true := by rw [w582]; exact h572
  have h602 : x_at M581 a151 1 (18 : Int32) = true := by rw [w582]; exact h573
  have h603 : x_at M581 a151 1 (19 : Int32) = true := by rw [w582]; exact h574
  have h604 : x_at M581 a151 1 (20 : Int32) = true := by rw [w582]; exact h575
  have h605 : x_at M581 a151 1 (21 : Int32) = true := by rw [w582]; exact h576
  have h606 : x_at M581 a151 1 (22 : Int32) = true := by rw [w582]; exact h577
  have h607 : x_at M581 a151 1 (23 : Int32) = true := by rw [w582]; exact h578
  have h608 : x_at M581 a151 1 (24 : Int32) = true := by rw [w582]; exact h579
  have h609 : x_at M581 a151 1 (25 : Int32) = true := by rw [w582]; exact h580
  refine x_iast' 292 dX9_init_292 h580 w582 ?_
  refine x_dup 293 dX9_init_293 rfl ?_
  refine x_bipush 294 (26 : Int32) dX9_init_294 (by decide) ?_
  refine x_bipush 296 (99 : Int32) dX9_init_296 (by decide) ?_
  obtain ⟨h610, H⟩ := x_ckp H
  obtain ⟨M611, w612, H⟩ := x_lt_of H
  have h613 : x_tag M611 a151 = 1 := by rw [w612]; exact h583
  have h614 : x_at M611 a151 1 (0 : Int32) = true := by rw [w612]; exact h584
  have h615 : x_at M611 a151 1 (1 : Int32) = true := by rw [w612]; exact h585
  have h616 : x_at M611 a151 1 (2 : Int32) = true := by rw [w612]; exact h586
  have h617 : x_at M611 a151 1 (3 : Int32) = true := by rw [w612]; exact h587
  have h618 : x_at M611 a151 1 (4 : Int32) = true := by rw [w612]; exact h588
  have h619 : x_at M611 a151 1 (5 : Int32) = true := by rw [w612]; exact h589
  have h620 : x_at M611 a151 1 (6 : Int32) = true := by rw [w612]; exact h590
  have h621 : x_at M611 a151 1 (7 : Int32) = true := by rw [w612]; exact h591
  have h622 : x_at M611 a151 1 (8 : Int32) = true := by rw [w612]; exact h592
  have h623 : x_at M611 a151 1 (9 : Int32) = true := by rw [w612]; exact h593
  have h624 : x_at M611 a151 1 (10 : Int32) = true := by rw [w612]; exact h594
  have h625 : x_at M611 a151 1 (11 : Int32) = true := by rw [w612]; exact h595
  have h626 : x_at M611 a151 1 (12 : Int32) = true := by rw [w612]; exact h596
  have h627 : x_at M611 a151 1 (13 : Int32) = true := by rw [w612]; exact h597
  have h628 : x_at M611 a151 1 (14 : Int32) = true := by rw [w612]; exact h598
  have h629 : x_at M611 a151 1 (15 : Int32) = true := by rw [w612]; exact h599
  have h630 : x_at M611 a151 1 (16 : Int32) = true := by rw [w612]; exact h600
  have h631 : x_at M611 a151 1 (17 : Int32) = true := by rw [w612]; exact h601
  have h632 : x_at M611 a151 1 (18 : Int32) = true := by rw [w612]; exact h602
  have h633 : x_at M611 a151 1 (19 : Int32) = true := by rw [w612]; exact h603
  have h634 : x_at M611 a151 1 (20 : Int32) = true := by rw [w612]; exact h604
  have h635 : x_at M611 a151 1 (21 : Int32) = true := by rw [w612]; exact h605
  have h636 : x_at M611 a151 1 (22 : Int32) = true := by rw [w612]; exact h606
  have h637 : x_at M611 a151 1 (23 : Int32) = true := by rw [w612]; exact h607
  have h638 : x_at M611 a151 1 (24 : Int32) = true := by rw [w612]; exact h608
  have h639 : x_at M611 a151 1 (25 : Int32) = true := by rw [w612]; exact h609
  have h640 : x_at M611 a151 1 (26 : Int32) = true := by rw [w612]; exact h610
  refine x_iast' 298 dX9_init_298 h610 w612 ?_
  refine x_dup 299 dX9_init_299 rfl ?_
  refine x_bipush 300 (27 : Int32) dX9_init_300 (by decide) ?_
  refine x_bipush 302 (111 : Int32) dX9_init_302 (by decide) ?_
  obtain ⟨h641, H⟩ := x_ckp H
  obtain ⟨M642, w643, H⟩ := x_lt_of H
  have h644 : x_tag M642 a151 = 1 := by rw [w643]; exact h613
  have h645 : x_at M642 a151 1 (0 : Int32) = true := by rw [w643]; exact h614
  have h646 : x_at M642 a151 1 (1 : Int32) = true := by rw [w643]; exact h615
  have h647 : x_at M642 a151 1 (2 : Int32) = true := by rw [w643]; exact h616
  have h648 : x_at M642 a151 1 (3 : Int32) = true := by rw [w643]; exact h617
  have h649 : x_at M642 a151 1 (4 : Int32) = true := by rw [w643]; exact h618
  have h650 : x_at M642 a151 1 (5 : Int32) = true := by rw [w643]; exact h619
  have h651 : x_at M642 a151 1 (6 : Int32) = true := by rw [w643]; exact h620
  have h652 : x_at M642 a151 1 (7 : Int32) = true := by rw [w643]; exact h621
  have h653 : x_at M642 a151 1 (8 : Int32) = true := by rw [w643]; exact h622
  have h654 : x_at M642 a151 1 (9 : Int32) = true := by rw [w643]; exact h623
  have h655 : x_at M642 a151 1 (10 : Int32) = true := by rw [w643]; exact h624
  have h656 : x_at M642 a151 1 (11 : Int32) = true := by rw [w643]; exact h625
  have h657 : x_at M642 a151 1 (12 : Int32) = true := by rw [w643]; exact h626
  have h658 : x_at M642 a151 1 (13 : Int32) = true := by rw [w643]; exact h627
  have h659 : x_at M642 a151 1 (14 : Int32) = true := by rw [w643]; exact h628
  have h660 : x_at M642 a151 1 (15 : Int32) = true := by rw [w643]; exact h629
  have h661 : x_at M642 a151 1 (16 : Int32) = true := by rw [w643]; exact h630
  have h662 : x_at M642 a151 1 (17 : Int32) = true := by rw [w643]; exact h631
  have h663 : x_at M642 a151 1 (18 : Int32) = true := by rw [w643]; exact h632
  have h664 : x_at M642 a151 1 (19 : Int32) = true := by rw [w643]; exact h633
  have h665 : x_at M642 a151 1 (20 : Int32) = true := by rw [w643]; exact h634
  have h666 : x_at M642 a151 1 (21 : Int32) = true := by rw [w643]; exact h635
  have h667 : x_at M642 a151 1 (22 : Int32) = true := by rw [w643]; exact h636
  have h668 : x_at M642 a151 1 (23 : Int32) = true := by rw [w643]; exact h637
  have h669 : x_at M642 a151 1 (24 : Int32) = true := by rw [w643]; exact h638
  have h670 : x_at M642 a151 1 (25 : Int32) = true := by rw [w643]; exact h639
  have h671 : x_at M642 a151 1 (26 : Int32) = true := by rw [w643]; exact h640
  have h672 : x_at M642 a151 1 (27 : Int32) = true := by rw [w643]; exact h641
  refine x_iast' 304 dX9_init_304 h641 w643 ?_
  refine x_dup 305 dX9_init_305 rfl ?_
  refine x_bipush 306 (28 : Int32) dX9_init_306 (by decide) ?_
  refine x_bipush 308 (115 : Int32) dX9_init_308 (by decide) ?_
  obtain ⟨h673, H⟩ := x_ckp H
  obtain ⟨M674, w675, H⟩ := x_lt_of H
  have h676 : x_tag M674 a151 = 1 := by rw [w675]; exact h644
  have h677 : x_at M674 a151 1 (0 : Int32) = true := by rw [w675]; exact h645
  have h678 : x_at M674 a151 1 (1 : Int32) = true := by rw [w675]; exact h646
  have h679 : x_at M674 a151 1 (2 : Int32) = true := by rw [w675]; exact h647
  have h680 : x_at M674 a151 1 (3 : Int32) = true := by rw [w675]; exact h648
  have h681 : x_at M674 a151 1 (4 : Int32) = true := by rw [w675]; exact h649
  have h682 : x_at M674 a151 1 (5 : Int32) = true := by rw [w675]; exact h650
  have h683 : x_at M674 a151 1 (6 : Int32) = true := by rw [w675]; exact h651
  have h684 : x_at M674 a151 1 (7 : Int32) = true := by rw [w675]; exact h652
  have h685 : x_at M674 a151 1 (8 : Int32) = true := by rw [w675]; exact h653
  have h686 : x_at M674 a151 1 (9 : Int32) = true := by rw [w675]; exact h654
  have h687 : x_at M674 a151 1 (10 : Int32) = true := by rw [w675]; exact h655
  have h688 : x_at M674 a151 1 (11 : Int32) = true := by rw [w675]; exact h656
  have h689 : x_at M674 a151 1 (12 : Int32) = true := by rw [w675]; exact h657
  have h690 : x_at M674 a151 1 (13 : Int32) = true := by rw [w675]; exact h658
  have h691 : x_at M674 a151 1 (14 : Int32) = true := by rw [w675]; exact h659
  have h692 : x_at M674 a151 1 (15 : Int32) = true := by rw [w675]; exact h660
  have h693 : x_at M674 a151 1 (16 : Int32) = true := by rw [w675]; exact h661
  have h694 : x_at M674 a151 1 (17 : Int32) = true := by rw [w675]; exact h662
  have h695 : x_at M674 a151 1 (18 : Int32) = true := by rw [w675]; exact h663
  have h696 : x_at M674 a151 1 (19 : Int32) = true := by rw [w675]; exact h664
  have h697 : x_at M674 a151 1 (20 : Int32) = true := by rw [w675]; exact h665
  have h698 : x_at M674 a151 1 (21 : Int32) = true := by rw [w675]; exact h666
  have h699 : x_at M674 a151 1 (22 : Int32) = true := by rw [w675]; exact h667
  have h700 : x_at M674 a151 1 (23 : Int32) = true := by rw [w675]; exact h668
  have h701 : x_at M674 a151 1 (24 : Int32) = true := by rw [w675]; exact h669
  have h702 : x_at M674 a151 1 (25 : Int32) = true := by rw [w675]; exact h670
  have h703 : x_at M674 a151 1 (26 : Int32) = true := by rw [w675]; exact h671
  have h704 : x_at M674 a151 1 (27 : Int32) = true := by rw [w675]; exact h672
  have h705 : x_at M674 a151 1 (28 : Int32) = true := by rw [w675]; exact h673
  refine x_iast' 310 dX9_init_310 h673 w675 ?_
  refine x_dup 311 dX9_init_311 rfl ?_
  refine x_bipush 312 (29 : Int32) dX9_init_312 (by decide) ?_
  refine x_bipush 314 (116 : Int32) dX9_init_314 (by decide) ?_
  obtain ⟨h706, H⟩ := x_ckp H
  obtain ⟨M707, w708, H⟩ := x_lt_of H
  have h709 : x_tag M707 a151 = 1 := by rw [w708]; exact h676
  have h710 : x_at M707 a151 1 (0 : Int32) = true := by rw [w708]; exact h677
  have h711 : x_at M707 a151 1 (1 : Int32) = true := by rw [w708]; exact h678
  have h712 : x_at M707 a151 1 (2 : Int32) = true := by rw [w708]; exact h679
  have h713 : x_at M707 a151 1 (3 : Int32) = true := by rw [w708]; exact h680
  have h714 : x_at M707 a151 1 (4 : Int32) = true := by rw [w708]; exact h681
  have h715 : x_at M707 a151 1 (5 : Int32) = true := by rw [w708]; exact h682
  have h716 : x_at M707 a151 1 (6 : Int32) = true := by rw [w708]; exact h683
  have h717 : x_at M707 a151 1 (7 : Int32) = true := by rw [w708]; exact h684
  have h718 : x_at M707 a151 1 (8 : Int32) = true := by rw [w708]; exact h685
  have h719 : x_at M707 a151 1 (9 : Int32) = true := by rw [w708]; exact h686
  have h720 : x_at M707 a151 1 (10 : Int32) = true := by rw [w708]; exact h687
  have h721 : x_at M707 a151 1 (11 : Int32) = true := by rw [w708]; exact h688
  have h722 : x_at M707 a151 1 (12 : Int32) = true := by rw [w708]; exact h689
  have h723 : x_at M707 a151 1 (13 : Int32) = true := by rw [w708]; exact h690
  have h724 : x_at M707 a151 1 (14 : Int32) = true := by rw [w708]; exact h691
  have h725 : x_at M707 a151 1 (15 : Int32) = true := by rw [w708]; exact h692
  have h726 : x_at M707 a151 1 (16 : Int32) = true := by rw [w708]; exact h693
  have h727 : x_at M707 a151 1 (17 : Int32) = true := by rw [w708]; exact h694
  have h728 : x_at M707 a151 1 (18 : Int32) = true := by rw [w708]; exact h695
  have h729 : x_at M707 a151 1 (19 : Int32) = true := by rw [w708]; exact h696
  have h730 : x_at M707 a151 1 (20 : Int32) = true := by rw [w708]; exact h697
  have h731 : x_at M707 a151 1 (21 : Int32) = true := by rw [w708]; exact h698
  have h732 : x_at M707 a151 1 (22 : Int32) = true := by rw [w708]; exact h699
  have h733 : x_at M707 a151 1 (23 : Int32) = true := by rw [w708]; exact h700
  have h734 : x_at M707 a151 1 (24 : Int32) = true := by rw [w708]; exact h701
  have h735 : x_at M707 a151 1 (25 : Int32) = true := by rw [w708]; exact h702
  have h736 : x_at M707 a151 1 (26 : Int32) = true := by rw [w708]; exact h703
  have h737 : x_at M707 a151 1 (27 : Int32) = true := by rw [w708]; exact h704
  have h738 : x_at M707 a151 1 (28 : Int32) = true := by rw [w708]; exact h705
  have h739 : x_at M707 a151 1 (29 : Int32) = true := by rw [w708]; exact h706
  refine x_iast' 316 dX9_init_316 h706 w708 ?_
  refine x_dup 317 dX9_init_317 rfl ?_
  refine x_bipush 318 (30 : Int32) dX9_init_318 (by decide) ?_
  refine x_bipush 320 (32 : Int32) dX9_init_320 (by decide) ?_
  obtain ⟨h740, H⟩ := x_ckp H
  obtain ⟨M741, w742, H⟩ := x_lt_of H
  have h743 : x_tag M741 a151 = 1 := by rw [w742]; exact h709
  have h744 : x_at M741 a151 1 (0 : Int32) = true := by rw [w742]; exact h710
  have h745 : x_at M741 a151 1 (1 : Int32) = true := by rw [w742]; exact h711
  have h746 : x_at M741 a151 1 (2 : Int32) = true := by rw [w742]; exact h712
  have h747 : x_at M741 a151 1 (3 : Int32) = true := by rw [w742]; exact h713
  have h748 : x_at M741 a151 1 (4 : Int32) = true := by rw [w742]; exact h714
  have h749 : x_at M741 a151 1 (5 : Int32) = true := by rw [w742]; exact h715
  have h750 : x_at M741 a151 1 (6 : Int32) = true := by rw [w742]; exact h716
  have h751 : x_at M741 a151 1 (7 : Int32) = true := by rw [w742]; exact h717
  have h752 : x_at M741 a151 1 (8 : Int32) = true := by rw [w742]; exact h718
  have h753 : x_at M741 a151 1 (9 : Int32) = true := by rw [w742]; exact h719
  have h754 : x_at M741 a151 1 (10 : Int32) = true := by rw [w742]; exact h720
  have h755 : x_at M741 a151 1 (11 : Int32) = true := by rw [w742]; exact h721
  have h756 : x_at M741 a151 1 (12 : Int32) = true := by rw [w742]; exact h722
  have h757 : x_at M741 a151 1 (13 : Int32) = true := by rw [w742]; exact h723
  have h758 : x_at M741 a151 1 (14 : Int32) = true := by rw [w742]; exact h724
  have h759 : x_at M741 a151 1 (15 : Int32) = true := by rw [w742]; exact h725
  have h760 : x_at M741 a151 1 (16 : Int32) = true := by rw [w742]; exact h726
  have h761 : x_at M741 a151 1 (17 : Int32) = true := by rw [w742]; exact h727
  have h762 : x_at M741 a151 1 (18 : Int32) = true := by rw [w742]; exact h728
  have h763 : x_at M741 a151 1 (19 : Int32) = true := by rw [w742]; exact h729
  have h764 : x_at M741 a151 1 (20 : Int32) = true := by rw [w742]; exact h730
  have h765 : x_at M741 a151 1 (21 : Int32) = true := by rw [w742]; exact h731
  have h766 : x_at M741 a151 1 (22 : Int32) = true := by rw [w742]; exact h732
  have h767 : x_at M741 a151 1 (23 : Int32) = true := by rw [w742]; exact h733
  have h768 : x_at M741 a151 1 (24 : Int32) = true := by rw [w742]; exact h734
  have h769 : x_at M741 a151 1 (25 : Int32) = true := by rw [w742]; exact h735
  have h770 : x_at M741 a151 1 (26 : Int32) = true := by rw [w742]; exact h736
  have h771 : x_at M741 a151 1 (27 : Int32) = true := by rw [w742]; exact h737
  have h772 : x_at M741 a151 1 (28 : Int32) = true := by rw [w742]; exact h738
  have h773 : x_at M741 a151 1 (29 : Int32) = true := by rw [w742]; exact h739
  have h774 : x_at M741 a151 1 (30 : Int32) = true := by rw [w742]; exact h740
  refine x_iast' 322 dX9_init_322 h740 w742 ?_
  refine x_dup 323 dX9_init_323 rfl ?_
  refine x_bipush 324 (31 : Int32) dX9_init_324 (by decide) ?_
  refine x_iconst 326 (0 : Int32) dX9_init_326 (by decide) ?_
  obtain ⟨h775, H⟩ := x_ckp H
  obtain ⟨M776, w777, H⟩ := x_lt_of H
  have h778 : x_tag M776 a151 = 1 := by rw [w777]; exact h743
  have h779 : x_at M776 a151 1 (0 : Int32) = true := by rw [w777]; exact h744
  have h780 : x_at M776 a151 1 (1 : Int32) = true := by rw [w777]; exact h745
  have h781 : x_at M776 a151 1 (2 : Int32) = true := by rw [w777]; exact h746
  have h782 : x_at M776 a151 1 (3 : Int32) = true := by rw [w777]; exact h747
  have h783 : x_at M776 a151 1 (4 : Int32) = true := by rw [w777]; exact h748
  have h784 : x_at M776 a151 1 (5 : Int32) = true := by rw [w777]; exact h749
  have h785 : x_at M776 a151 1 (6 : Int32) = true := by rw [w777]; exact h750
  have h786 : x_at M776 a151 1 (7 : Int32) = true := by rw [w777]; exact h751
  have h787 : x_at M776 a151 1 (8 : Int32) = true := by rw [w777]; exact h752
  have h788 : x_at M776 a151 1 (9 : Int32) = true := by rw [w777]; exact h753
  have h789 : x_at M776 a151 1 (10 : Int32) = true := by rw [w777]; exact h754
  have h790 : x_at M776 a151 1 (11 : Int32) = true := by rw [w777]; exact h755
  have h791 : x_at M776 a151 1 (12 : Int32) = true := by rw [w777]; exact h756
  have h792 : x_at M776 a151 1 (13 : Int32) = true := by rw [w777]; exact h757
  have h793 : x_at M776 a151 1 (14 : Int32) = true := by rw [w777]; exact h758
  have h794 : x_at M776 a151 1 (15 : Int32) = true := by rw [w777]; exact h759
  have h795 : x_at M776 a151 1 (16 : Int32) = true := by rw [w777]; exact h760
  have h796 : x_at M776 a151 1 (17 : Int32) = true := by rw [w777]; exact h761
  have h797 : x_at M776 a151 1 (18 : Int32) = true := by rw [w777]; exact h762
  have h798 : x_at M776 a151 1 (19 : Int32) = true := by rw [w777]; exact h763
  have h799 : x_at M776 a151 1 (20 : Int32) = true := by rw [w777]; exact h764
  have h800 : x_at M776 a151 1 (21 : Int32) = true := by rw [w777]; exact h765
  have h801 : x_at M776 a151 1 (22 : Int32) = true := by rw [w777]; exact h766
  have h802 : x_at M776 a151 1 (23 : Int32) = true := by rw [w777]; exact h767
  have h803 : x_at M776 a151 1 (24 : Int32) = true := by rw [w777]; exact h768
  have h804 : x_at M776 a151 1 (25 : Int32) = true := by rw [w777]; exact h769
  have h805 : x_at M776 a151 1 (26 : Int32) = true := by rw [w777]; exact h770
  have h806 : x_at M776 a151 1 (27 : Int32) = true := by rw [w777]; exact h771
  have h807 : x_at M776 a151 1 (28 : Int32) = true := by rw [w777]; exact h772
  have h808 : x_at M776 a151 1 (29 : Int32) = true := by rw [w777]; exact h773
  have h809 : x_at M776 a151 1 (30 : Int32) = true := by rw [w777]; exact h774
  have h810 : x_at M776 a151 1 (31 : Int32) = true := by rw [w777]; exact h775
  refine x_iast' 327 dX9_init_327 h775 w777 ?_
  refine x_dup 328 dX9_init_328 rfl ?_
  refine x_bipush 329 (32 : Int32) dX9_init_329 (by decide) ?_
  refine x_bipush 331 (116 : Int32) dX9_init_331 (by decide) ?_
  obtain ⟨h811, H⟩ := x_ckp H
  obtain ⟨M812, w813, H⟩ := x_lt_of H
  have h814 : x_tag M812 a151 = 1 := by rw [w813]; exact h778
  have h815 : x_at M812 a151 1 (0 : Int32) = true := by rw [w813]; exact h779
  have h816 : x_at M812 a151 1 (1 : Int32) = true := by rw [w813]; exact h780
  have h817 : x_at M812 a151 1 (2 : Int32) = true := by rw [w813]; exact h781
  have h818 : x_at M812 a151 1 (3 : Int32) = true := by rw [w813]; exact h782
  have h819 : x_at M812 a151 1 (4 : Int32) = true := by rw [w813]; exact h783
  have h820 : x_at M812 a151 1 (5 : Int32) = true := by rw [w813]; exact h784
  have h821 : x_at M812 a151 1 (6 : Int32) = true := by rw [w813]; exact h785
  have h822 : x_at M812 a151 1 (7 : Int32) = true := by rw [w813]; exact h786
  have h823 : x_at M812 a151 1 (8 : Int32) = true := by rw [w813]; exact h787
  have h824 : x_at M812 a151 1 (9 : Int32) = true := by rw [w813]; exact h788
  have h825 : x_at M812 a151 1 (10 : Int32) = true := by rw [w813]; exact h789
  have h826 : x_at M812 a151 1 (11 : Int32) = true := by rw [w813]; exact h790
  have h827 : x_at M812 a151 1 (12 : Int32) = true := by rw [w813]; exact h791
  have h828 : x_at M812 a151 1 (13 : Int32) = true := by rw [w813]; exact h792
  have h829 : x_at M812 a151 1 (14 : Int32) = true := by rw [w813]; exact h793
  have h830 : x_at M812 a151 1 (15 : Int32) = true := by rw [w813]; exact h794
  have h831 : x_at M812 a151 1 (16 : Int32) = true := by rw [w813]; exact h795
  have h832 : x_at M812 a151 1 (17 : Int32) = true := by rw [w813]; exact h796
  have h833 : x_at M812 a151 1 (18 : Int32) = true := by rw [w813]; exact h797
  have h834 : x_at M812 a151 1 (19 : Int32) = true := by rw [w813]; exact h798
  have h835 : x_at M812 a151 1 (20 : Int32) = true := by rw [w813]; exact h799
  have h836 : x_at M812 a151 1 (21 : Int32) = true := by rw [w813]; exact h800
  have h837 : x_at M812 a151 1 (22 : Int32) = true := by rw [w813]; exact h801
  have h838 : x_at M812 a151 1 (23 : Int32) = true := by rw [w813]; exact h802
  have h839 : x_at M812 a151 1 (24 : Int32) = true := by rw [w813]; exact h803
  have h840 : x_at M812 a151 1 (25 : Int32) = true := by rw [w813]; exact h804
  have h841 : x_at M812 a151 1 (26 : Int32) = true := by rw [w813]; exact h805
  have h842 : x_at M812 a151 1 (27 : Int32) = true := by rw [w813]; exact h806
  have h843 : x_at M812 a151 1 (28 : Int32) = true := by rw [w813]; exact h807
  have h844 : x_at M812 a151 1 (29 : Int32) = true := by rw [w813]; exact h808
  have h845 : x_at M812 a151 1 (30 : Int32) = true := by rw [w813]; exact h809
  have h846 : x_at M812 a151 1 (31 : Int32) = true := by rw [w813]; exact h810
  have h847 : x_at M812 a151 1 (32 : Int32) = true := by rw [w813]; exact h811
  refine x_iast' 333 dX9_init_333 h811 w813 ?_
  refine x_dup 334 dX9_init_334 rfl ?_
  refine x_bipush 335 (33 : Int32) dX9_init_335 (by decide) ?_
  refine x_bipush 337 (97 : Int32) dX9_init_337 (by decide) ?_
  obtain ⟨h848, H⟩ := x_ckp H
  obtain ⟨M849, w850, H⟩ := x_lt_of H
  have h851 : x_tag M849 a151 = 1 := by rw [w850]; exact h814
  have h852 : x_at M849 a151 1 (0 : Int32) = true := by rw [w850]; exact h815
  have h853 : x_at M849 a151 1 (1 : Int32) = true := by rw [w850]; exact h816
  have h854 : x_at M849 a151 1 (2 : Int32) = true := by rw [w850]; exact h817
  have h855 : x_at M849 a151 1 (3 : Int32) = true := by rw [w850]; exact h818
  have h856 : x_at M849 a151 1 (4 : Int32) = true := by rw [w850]; exact h819
  have h857 : x_at M849 a151 1 (5 : Int32) = true := by rw [w850]; exact h820
  have h858 : x_at M849 a151 1 (6 : Int32) = true := by rw [w850]; exact h821
  have h859 : x_at M849 a151 1 (7 : Int32) = true := by rw [w850]; exact h822
  have h860 : x_at M849 a151 1 (8 : Int32) = true := by rw [w850]; exact h823
  have h861 : x_at M849 a151 1 (9 : Int32) = true := by rw [w850]; exact h824
  have h862 : x_at M849 a151 1 (10 : Int32) = true := by rw [w850]; exact h825
  have h863 : x_at M849 a151 1 (11 : Int32) = true := by rw [w850]; exact h826
  have h864 : x_at M849 a151 1 (12 : Int32) = true := by rw [w850]; exact h827
  have h865 : x_at M849 a151 1 (13 : Int32) = true := by rw [w850]; exact h828
  have h866 : x_at M849 a151 1 (14 : Int32) = true := by rw [w850]; exact h829
  have h867 : x_at M849 a151 1 (15 : Int32) = true := by rw [w850]; exact h830
  have h868 : x_at M849 a151 1 (16 : Int32) = true := by rw [w850]; exact h831
  have h869 : x_at M849 a151 1 (17 : Int32) = true := by rw [w850]; exact h832
  have h870 : x_at M849 a151 1 (18 : Int32) = true := by rw [w850]; exact h833
  have h871 : x_at M849 a151 1 (19 : Int32) = true := by rw [w850]; exact h834
  have h872 : x_at M849 a151 1 (20 : Int32) = true := by rw [w850]; exact h835
  have h873 : x_at M849 a151 1 (21 : Int32) = true := by rw [w850]; exact h836
  have h874 : x_at M849 a151 1 (22 : Int32) = true := by rw [w850]; exact h837
  have h875 : x_at M849 a151 1 (23 : Int32) = true := by rw [w850]; exact h838
  have h876 : x_at M849 a151 1 (24 : Int32) = true := by rw [w850]; exact h839
  have h877 : x_at M849 a151 1 (25 : Int32) = true := by rw [w850]; exact h840
  have h878 : x_at M849 a151 1 (26 : Int32) = true := by rw [w850]; exact h841
  have h879 : x_at M849 a151 1 (27 : Int32) = true := by rw [w850]; exact h842
  have h880 : x_at M849 a151 1 (28 : Int32) = true := by rw [w850]; exact h843
  have h881 : x_at M849 a151 1 (29 : Int32) = true := by rw [w850]; exact h844
  have h882 : x_at M849 a151 1 (30 : Int32) = true := by rw [w850]; exact h845
  have h883 : x_at M849 a151 1 (31 : Int32) = true := by rw [w850]; exact h846
  have h884 : x_at M849 a151 1 (32 : Int32) = true := by rw [w850]; exact h847
  have h885 : x_at M849 a151 1 (33 : Int32) = true := by rw [w850]; exact h848
  refine x_iast' 339 dX9_init_339 h848 w850 ?_
  refine x_dup 340 dX9_init_340 rfl ?_
  refine x_bipush 341 (34 : Int32) dX9_init_341 (by decide) ?_
  refine x_bipush 343 (108 : Int32) dX9_init_343 (by decide) ?_
  obtain ⟨h886, H⟩ := x_ckp H
  obtain ⟨M887, w888, H⟩ := x_lt_of H
  have h889 : x_tag M887 a151 = 1 := by rw [w888]; exact h851
  have h890 : x_at M887 a151 1 (0 : Int32) = true := by rw [w888]; exact h852
  have h891 : x_at M887 a151 1 (1 : Int32) = true := by rw [w888]; exact h853
  have h892 : x_at M887 a151 1 (2 : Int32) = true := by rw [w888]; exact h854
  have h893 : x_at M887 a151 1 (3 : Int32) = true := by rw [w888]; exact h855
  have h894 : x_at M887 a151 1 (4 : Int32) = true := by rw [w888]; exact h856
  have h895 : x_at M887 a151 1 (5 : Int32) = true := by rw [w888]; exact h857
  have h896 : x_at M887 a151 1 (6 : Int32) = true := by rw [w888]; exact h858
  have h897 : x_at M887 a151 1 (7 : Int32) = true := by rw [w888]; exact h859
  have h898 : x_at M887 a151 1 (8 : Int32) = true := by rw [w888]; exact h860
  have h899 : x_at M887 a151 1 (9 : Int32) = true := by rw [w888]; exact h861
  have h900 : x_at M887 a151 1 (10 : Int32) = true := by rw [w888]; exact h862
  have h901 : x_at M887 a151 1 (11 : Int32) = true := by rw [w888]; exact h863
  have h902 : x_at M887 a151 1 (12 : Int32) = true := by rw [w888]; exact h864
  have h903 : x_at M887 a151 1 (13 : Int32) = true := by rw [w888]; exact h865
  have h904 : x_at M887 a151 1 (14 : Int32) = true := by rw [w888]; exact h866
  have h905 : x_at M887 a151 1 (15 : Int32) = true := by rw [w888]; exact h867
  have h906 : x_at M887 a151 1 (16 : Int32) = true := by rw [w888]; exact h868
  have h907 : x_at M887 a151 1 (17 : Int32) = true := by rw [w888]; exact h869
  have h908 : x_at M887 a151 1 (18 : Int32) = true := by rw [w888]; exact h870
  have h909 : x_at M887 a151 1 (19 : Int32) = true := by rw [w888]; exact h871
  have h910 : x_at M887 a151 1 (20 : Int32) = true := by rw [w888]; exact h872
  have h911 : x_at M887 a151 1 (21 : Int32) = true := by rw [w888]; exact h873
  have h912 : x_at M887 a151 1 (22 : Int32) = true := by rw [w888]; exact h874
  have h913 : x_at M887 a151 1 (23 : Int32) = true := by rw [w888]; exact h875
  have h914 : x_at M887 a151 1 (24 : Int32) = true := by rw [w888]; exact h876
  have h915 : x_at M887 a151 1 (25 : Int32) = true := by rw [w888]; exact h877
  have h916 : x_at M887 a151 1 (26 : Int32) = true := by rw [w888]; exact h878
  have h917 : x_at M887 a151 1 (27 : Int32) = true := by rw [w888]; exact h879
  have h918 : x_at M887 a151 1 (28 : Int32) = true := by rw [w888]; exact h880
  have h919 : x_at M887 a151 1 (29 : Int32) = true := by rw [w888]; exact h881
  have h920 : x_at M887 a151 1 (30 : Int32) = true := by rw [w888]; exact h882
  have h921 : x_at M887 a151 1 (31 : Int32) = true := by rw [w888]; exact h883
  have h922 : x_at M887 a151 1 (32 : Int32) = true := by rw [w888]; exact h884
  have h923 : x_at M887 a151 1 (33 : Int32) = true := by rw [w888]; exact h885
  have h924 : x_at M887 a151 1 (34 : Int32) = true := by rw [w888]; exact h886
  refine x_iast' 345 dX9_init_345 h886 w888 ?_
  refine x_dup 346 dX9_init_346 rfl ?_
  refine x_bipush 347 (35 : Int32) dX9_init_347 (by decide) ?_
  refine x_bipush 349 (108 : Int32) dX9_init_349 (by decide) ?_
  obtain ⟨h925, H⟩ := x_ckp H
  obtain ⟨M926, w927, H⟩ := x_lt_of H
  have h928 : x_tag M926 a151 = 1 := by rw [w927]; exact h889
  have h929 : x_at M926 a151 1 (0 : Int32) = true := by rw [w927]; exact h890
  have h930 : x_at M926 a151 1 (1 : Int32) = true := by rw [w927]; exact h891
  have h931 : x_at M926 a151 1 (2 : Int32) = true := by rw [w927]; exact h892
  have h932 : x_at M926 a151 1 (3 : Int32) = true := by rw [w927]; exact h893
  have h933 : x_at M926 a151 1 (4 : Int32) = true := by rw [w927]; exact h894
  have h934 : x_at M926 a151 1 (5 : Int32) = true := by rw [w927]; exact h895
  have h935 : x_at M926 a151 1 (6 : Int32) = true := by rw [w927]; exact h896
  have h936 : x_at M926 a151 1 (7 : Int32) = true := by rw [w927]; exact h897
  have h937 : x_at M926 a151 1 (8 : Int32) = true := by rw [w927]; exact h898
  have h938 : x_at M926 a151 1 (9 : Int32) = true := by rw [w927]; exact h899
  have h939 : x_at M926 a151 1 (10 : Int32) = true := by rw [w927]; exact h900
  have h940 : x_at M926 a151 1 (11 : Int32) = true := by rw [w927]; exact h901
  have h941 : x_at M926 a151 1 (12 : Int32) = true := by rw [w927]; exact h902
  have h942 : x_at M926 a151 1 (13 : Int32) = true := by rw [w927]; exact h903
  have h943 : x_at M926 a151 1 (14 : Int32) = true := by rw [w927]; exact h904
  have h944 : x_at M926 a151 1 (15 : Int32) = true := by rw [w927]; exact h905
  have h945 : x_at M926 a151 1 (16 : Int32) = true := by rw [w927]; exact h906
  have h946 : x_at M926 a151 1 (17 : Int32) = true := by rw [w927]; exact h907
  have h947 : x_at M926 a151 1 (18 : Int32) = true := by rw [w927]; exact h908
  have h948 : x_at M926 a151 1 (19 : Int32) = true := by rw [w927]; exact h909
  have h949 : x_at M926 a151 1 (20 : Int32) = true := by rw [w927]; exact h910
  have h950 : x_at M926 a151 1 (21 : Int32) = true := by rw [w927]; exact h911
  have h951 : x_at M926 a151 1 (22 : Int32) = true := by rw [w927]; exact h912
  have h952 : x_at M926 a151 1 (23 : Int32) = true := by rw [w927]; exact h913
  have h953 : x_at M926 a151 1 (24 : Int32) = true := by rw [w927]; exact h914
  have h954 : x_at M926 a151 1 (25 : Int32) = true := by rw [w927]; exact h915
  have h955 : x_at M926 a151 1 (26 : Int32) = true := by rw [w927]; exact h916
  have h956 : x_at M926 a151 1 (27 : Int32) = true := by rw [w927]; exact h917
  have h957 : x_at M926 a151 1 (28 : Int32) = true := by rw [w927]; exact h918
  have h958 : x_at M926 a151 1 (29 : Int32) = true := by rw [w927]; exact h919
  have h959 : x_at M926 a151 1 (30 : Int32) = true := by rw [w927]; exact h920
  have h960 : x_at M926 a151 1 (31 : Int32) = true := by rw [w927]; exact h921
  have h961 : x_at M926 a151 1 (32 : Int32) = true := by rw [w927]; exact h922
  have h962 : x_at M926 a151 1 (33 : Int32) = true := by rw [w927]; exact h923
  have h963 : x_at M926 a151 1 (34 : Int32) = true := by rw [w927]; exact h924
  have h964 : x_at M926 a151 1 (35 : Int32) = true := by rw [w927]; exact h925
  refine x_iast' 351 dX9_init_351 h925 w927 ?_
  refine x_dup 352 dX9_init_352 rfl ?_
  refine x_bipush 353 (36 : Int32) dX9_init_353 (by decide) ?_
  refine x_bipush 355 (121 : Int32) dX9_init_355 (by decide) ?_
  obtain ⟨h965, H⟩ := x_ckp H
  obtain ⟨M966, w967, H⟩ := x_lt_of H
  have h968 : x_tag M966 a151 = 1 := by rw [w967]; exact h928
  have h969 : x_at M966 a151 1 (0 : Int32) = true := by rw [w967]; exact h929
  have h970 : x_at M966 a151 1 (1 : Int32) = true := by rw [w967]; exact h930
  have h971 : x_at M966 a151 1 (2 : Int32) = true := by rw [w967]; exact h931
  have h972 : x_at M966 a151 1 (3 : Int32) = true := by rw [w967]; exact h932
  have h973 : x_at M966 a151 1 (4 : Int32) = true := by rw [w967]; exact h933
  have h974 : x_at M966 a151 1 (5 : Int32) = true := by rw [w967]; exact h934
  have h975 : x_at M966 a151 1 (6 : Int32) = true := by rw [w967]; exact h935
  have h976 : x_at M966 a151 1 (7 : Int32) = true := by rw [w967]; exact h936
  have h977 : x_at M966 a151 1 (8 : Int32) = true := by rw [w967]; exact h937
  have h978 : x_at M966 a151 1 (9 : Int32) = true := by rw [w967]; exact h938
  have h979 : x_at M966 a151 1 (10 : Int32) = true := by rw [w967]; exact h939
  have h980 : x_at M966 a151 1 (11 : Int32) = true := by rw [w967]; exact h940
  have h981 : x_at M966 a151 1 (12 : Int32) = true := by rw [w967]; exact h941
  have h982 : x_at M966 a151 1 (13 : Int32) = true := by rw [w967]; exact h942
  have h983 : x_at M966 a151 1 (14 : Int32) = true := by rw [w967]; exact h943
  have h984 : x_at M966 a151 1 (15 : Int32) = true := by rw [w967]; exact h944
  have h985 : x_at M966 a151 1 (16 : Int32) = true := by rw [w967]; exact h945
  have h986 : x_at M966 a151 1 (17 : Int32) = true := by rw [w967]; exact h946
  have h987 : x_at M966 a151 1 (18 : Int32) = true := by rw [w967]; exact h947
  have h988 : x_at M966 a151 1 (19 : Int32) = true := by rw [w967]; exact h948
  have h989 : x_at M966 a151 1 (20 : Int32) = true := by rw [w967]; exact h949
  have h990 : x_at M966 a151 1 (21 : Int32) = true := by rw [w967]; exact h950
  have h991 : x_at M966 a151 1 (22 : Int32) = true := by rw [w967]; exact h951
  have h992 : x_at M966 a151 1 (23 : Int32) = true := by rw [w967]; exact h952
  have h993 : x_at M966 a151 1 (24 : Int32) = true := by rw [w967]; exact h953
  have h994 : x_at M966 a151 1 (25 : Int32) = true := by rw [w967]; exact h954
  have h995 : x_at M966 a151 1 (26 : Int32) = true := by rw [w967]; exact h955
  have h996 : x_at M966 a151 1 (27 : Int32) = true := by rw [w967]; exact h956
  have h997 : x_at M966 a151 1 (28 : Int32) = true := by rw [w967]; exact h957
  have h998 : x_at M966 a151 1 (29 : Int32) = true := by rw [w967]; exact h958
  have h999 : x_at M966 a151 1 (30 : Int32) = true := by rw [w967]; exact h959
  have h1000 : x_at M966 a151 1 (31 : Int32) = true := by rw [w967]; exact h960
  have h1001 : x_at M966 a151 1 (32 : Int32) = true := by rw [w967]; exact h961
  have h1002 : x_at M966 a151 1 (33 : Int32) = true := by rw [w967]; exact h962
  have h1003 : x_at M966 a151 1 (34 : Int32) = true := by rw [w967]; exact h963
  have h1004 : x_at M966 a151 1 (35 : Int32) = true := by rw [w967]; exact h964
  have h1005 : x_at M966 a151 1 (36 : Int32) = true := by rw [w967]; exact h965
  refine x_iast' 357 dX9_init_357 h965 w967 ?_
  refine x_dup 358 dX9_init_358 rfl ?_
  refine x_bipush 359 (37 : Int32) dX9_init_359 (by decide) ?_
  refine x_bipush 361 (32 : Int32) dX9_init_361 (by decide) ?_
  obtain ⟨h1006, H⟩ := x_ckp H
  obtain ⟨M1007, w1008, H⟩ := x_lt_of H
  have h1009 : x_tag M1007 a151 = 1 := by rw [w1008]; exact h968
  have h1010 : x_at M1007 a151 1 (0 : Int32) = true := by rw [w1008]; exact h969
  have h1011 : x_at M1007 a151 1 (1 : Int32) = true := by rw [w1008]; exact h970
  have h1012 : x_at M1007 a151 1 (2 : Int32) = true := by rw [w1008]; exact h971
  have h1013 : x_at M1007 a151 1 (3 : Int32) = true := by rw [w1008]; exact h972
  have h1014 : x_at M1007 a151 1 (4 : Int32) = true := by rw [w1008]; exact h973
  have h1015 : x_at M1007 a151 1 (5 : Int32) = true := by rw [w1008]; exact h974
  have h1016 : x_at M1007 a151 1 (6 : Int32) = true := by rw [w1008]; exact h975
  have h1017 : x_at M1007 a151 1 (7 : Int32) = true := by rw [w1008]; exact h976
  have h1018 : x_at M1007 a151 1 (8 : Int32) = true := by rw [w1008]; exact h977
  have h1019 : x_at M1007 a151 1 (9 : Int32) = true := by rw [w1008]; exact h978
  have h1020 : x_at M1007 a151 1 (10 : Int32) = true := by rw [w1008]; exact h979
  have h1021 : x_at M1007 a151 1 (11 : Int32) = true := by rw [w1008]; exact h980
  have h1022 : x_at M1007 a151 1 (12 : Int32) = true := by rw [w1008]; exact h981
  have h1023 : x_at M1007 a151 1 (13 : Int32) = true := by rw [w1008]; exact h982
  have h1024 : x_at M1007 a151 1 (14 : Int32) = true := by rw [w1008]; exact h983
  have h1025 : x_at M1007 a151 1 (15 : Int32) = true := by rw [w1008]; exact h984
  have h1026 : x_at M1007 a151 1 (16 : Int32) = true := by rw [w1008]; exact h985
  have h1027 : x_at M1007 a151 1 (17 : Int32) = true := by rw [w1008]; exact h986
  have h1028 : x_at M1007 a151 1 (18 : Int32) = true := by rw [w1008]; exact h987
  have h1029 : x_at M1007 a151 1 (19 : Int32) = true := by rw [w1008]; exact h988
  have h1030 : x_at M1007 a151 1 (20 : Int32) = true := by rw [w1008]; exact h989
  have h1031 : x_at M1007 a151 1 (21 : Int32) = true := by rw [w1008]; exact h990
  have h1032 : x_at M1007 a151 1 (22 : Int32) = true := by rw [w1008]; exact h991
  have h1033 : x_at M1007 a151 1 (23 : Int32) = true := by rw [w1008]; exact h992
  have h1034 : x_at M1007 a151 1 (24 : Int32) = true := by rw [w1008]; exact h993
  have h1035 : x_at M1007 a151 1 (25 : Int32) = true := by rw [w1008]; exact h994
  have h1036 : x_at M1007 a151 1 (26 : Int32) = true := by rw [w1008]; exact h995
  have h1037 : x_at M1007 a151 1 (27 : Int32) = true := by rw [w1008]; exact h996
  have h1038 : x_at M1007 a151 1 (28 : Int32) = true := by rw [w1008]; exact h997
  have h1039 : x_at M1007 a151 1 (29 : Int32) = true := by rw [w1008]; exact h998
  have h1040 : x_at M1007 a151 1 (30 : Int32) = true := by rw [w1008]; exact h999
  have h1041 : x_at M1007 a151 1 (31 : Int32) = true := by rw [w1008]; exact h1000
  have h1042 : x_at M1007 a151 1 (32 : Int32) = true := by rw [w1008]; exact h1001
  have h1043 : x_at M1007 a151 1 (33 : Int32) = true := by rw [w1008]; exact h1002
  have h1044 : x_at M1007 a151 1 (34 : Int32) = true := by rw [w1008]; exact h1003
  have h1045 : x_at M1007 a151 1 (35 : Int32) = true := by rw [w1008]; exact h1004
  have h1046 : x_at M1007 a151 1 (36 : Int32) = true := by rw [w1008]; exact h1005
  have h1047 : x_at M1007 a151 1 (37 : Int32) = true := by rw [w1008]; exact h1006
  refine x_iast' 363 dX9_init_363 h1006 w1008 ?_
  refine x_dup 364 dX9_init_364 rfl ?_
  refine x_bipush 365 (38 : Int32) dX9_init_365 (by decide) ?_
  refine x_iconst 367 (0 : Int32) dX9_init_367 (by decide) ?_
  obtain ⟨h1048, H⟩ := x_ckp H
  obtain ⟨M1049, w1050, H⟩ := x_lt_of H
  have h1051 : x_tag M1049 a151 = 1 := by rw [w1050]; exact h1009
  have h1052 : x_at M1049 a151 1 (0 : Int32) = true := by rw [w1050]; exact h1010
  have h1053 : x_at M1049 a151 1 (1 : Int32) = true := by rw [w1050]; exact h1011
  have h1054 : x_at M1049 a151 1 (2 : Int32) = true := by rw [w1050]; exact h1012
  have h1055 : x_at M1049 a151 1 (3 : Int32) = true := by rw [w1050]; exact h1013
  have h1056 : x_at M1049 a151 1 (4 : Int32) = true := by rw [w1050]; exact h1014
  have h1057 : x_at M1049 a151 1 (5 : Int32) = true := by rw [w1050]; exact h1015
  have h1058 : x_at M1049 a151 1 (6 : Int32) = true := by rw [w1050]; exact h1016
  have h1059 : x_at M1049 a151 1 (7 : Int32) = true := by rw [w1050]; exact h1017
  have h1060 : x_at M1049 a151 1 (8 : Int32) = true := by rw [w1050]; exact h1018
  have h1061 : x_at M1049 a151 1 (9 : Int32) = true := by rw [w1050]; exact h1019
  have h1062 : x_at M1049 a151 1 (10 : Int32) = true := by rw [w1050]; exact h1020
  have h1063 : x_at M1049 a151 1 (11 : Int32) = true := by rw [w1050]; exact h1021
  have h1064 : x_at M1049 a151 1 (12 : Int32) = true := by rw [w1050]; exact h1022
  have h1065 : x_at M1049 a151 1 (13 : Int32) = true := by rw [w1050]; exact h1023
  have h1066 : x_at M1049 a151 1 (14 : Int32) = true := by rw [w1050]; exact h1024
  have h1067 : x_at M1049 a151 1 (15 : Int32) = true := by rw [w1050]; exact h1025
  have h1068 : x_at M1049 a151 1 (16 : Int32) = true := by rw [w1050]; exact h1026
  have h1069 : x_at M1049 a151 1 (17 : Int32) = true := by rw [w1050]; exact h1027
  have h1070 : x_at M1049 a151 1 (18 : Int32) = true := by rw [w1050]; exact h1028
  have h1071 : x_at M1049 a151 1 (19 : Int32) = true := by rw [w1050]; exact h1029
  have h1072 : x_at M1049 a151 1 (20 : Int32) = true := by rw [w1050]; exact h1030
  have h1073 : x_at M1049 a151 1 (21 : Int32) = true := by rw [w1050]; exact h1031
  have h1074 : x_at M1049 a151 1 (22 : Int32) = true := by rw [w1050]; exact h1032
  have h1075 : x_at M1049 a151 1 (23 : Int32) = true := by rw [w1050]; exact h1033
  have h1076 : x_at M1049 a151 1 (24 : Int32) = true := by rw [w1050]; exact h1034
  have h1077 : x_at M1049 a151 1 (25 : Int32) = true := by rw [w1050]; exact h1035
  have h1078 : x_at M1049 a151 1 (26 : Int32) = true := by rw [w1050]; exact h1036
  have h1079 : x_at M1049 a151 1 (27 : Int32) = true := by rw [w1050]; exact h1037
  have h1080 : x_at M1049 a151 1 (28 : Int32) = true := by rw [w1050]; exact h1038
  have h1081 : x_at M1049 a151 1 (29 : Int32) = true := by rw [w1050]; exact h1039
  have h1082 : x_at M1049 a151 1 (30 : Int32) = true := by rw [w1050]; exact h1040
  have h1083 : x_at M1049 a151 1 (31 : Int32) = true := by rw [w1050]; exact h1041
  have h1084 : x_at M1049 a151 1 (32 : Int32) = true := by rw [w1050]; exact h1042
  have h1085 : x_at M1049 a151 1 (33 : Int32) = true := by rw [w1050]; exact h1043
  have h1086 : x_at M1049 a151 1 (34 : Int32) = true := by rw [w1050]; exact h1044
  have h1087 : x_at M1049 a151 1 (35 : Int32) = true := by rw [w1050]; exact h1045
  have h1088 : x_at M1049 a151 1 (36 : Int32) = true := by rw [w1050]; exact h1046
  have h1089 : x_at M1049 a151 1 (37 : Int32) = true := by rw [w1050]; exact h1047
  have h1090 : x_at M1049 a151 1 (38 : Int32) = true := by rw [w1050]; exact h1048
  refine x_iast' 368 dX9_init_368 h1048 w1050 ?_
  refine x_dup 369 dX9_init_369 rfl ?_
  refine x_bipush 370 (39 : Int32) dX9_init_370 (by decide) ?_
  refine x_bipush 372 (97 : Int32) dX9_init_372 (by decide) ?_
  obtain ⟨h1091, H⟩ := x_ckp H
  obtain ⟨M1092, w1093, H⟩ := x_lt_of H
  have h1094 : x_tag M1092 a151 = 1 := by rw [w1093]; exact h1051
  have h1095 : x_at M1092 a151 1 (0 : Int32) = true := by rw [w1093]; exact h1052
  have h1096 : x_at M1092 a151 1 (1 : Int32) = true := by rw [w1093]; exact h1053
  have h1097 : x_at M1092 a151 1 (2 : Int32) = true := by rw [w1093]; exact h1054
  have h1098 : x_at M1092 a151 1 (3 : Int32) = true := by rw [w1093]; exact h1055
  have h1099 : x_at M1092 a151 1 (4 : Int32) = true := by rw [w1093]; exact h1056
  have h1100 : x_at M1092 a151 1 (5 : Int32) = true := by rw [w1093]; exact h1057
  have h1101 : x_at M1092 a151 1 (6 : Int32) = true := by rw [w1093]; exact h1058
  have h1102 : x_at M1092 a151 1 (7 : Int32) = true := by rw [w1093]; exact h1059
  have h1103 : x_at M1092 a151 1 (8 : Int32) = true := by rw [w1093]; exact h1060
  have h1104 : x_at M1092 a151 1 (9 : Int32) = true := by rw [w1093]; exact h1061
  have h1105 : x_at M1092 a151 1 (10 : Int32) = true := by rw [w1093]; exact h1062
  have h1106 : x_at M1092 a151 1 (11 : Int32) = true := by rw [w1093]; exact h1063
  have h1107 : x_at M1092 a151 1 (12 : Int32) = true := by rw [w1093]; exact h1064
  have h1108 : x_at M1092 a151 1 (13 : Int32) = true := by rw [w1093]; exact h1065
  have h1109 : x_at M1092 a151 1 (14 : Int32) = true := by rw [w1093]; exact h1066
  have h1110 : x_at M1092 a151 1 (15 : Int32) = true := by rw [w1093]; exact h1067
  have h1111 : x_at M1092 a151 1 (16 : Int32) = true := by rw [w1093]; exact h1068
  have h1112 : x_at M1092 a151 1 (17 : Int32) = true := by rw [w1093]; exact h1069
  have h1113 : x_at M1092 a151 1 (18 : Int32) = true := by rw [w1093]; exact h1070
  have h1114 : x_at M1092 a151 1 (19 : Int32) = true := by rw [w1093]; exact h1071
  have h1115 : x_at M1092 a151 1 (20 : Int32) = true := by rw [w1093]; exact h1072
  have h1116 : x_at M1092 a151 1 (21 : Int32) = true := by rw [w1093]; exact h1073
  have h1117 : x_at M1092 a151 1 (22 : Int32) = true := by rw [w1093]; exact h1074
  have h1118 : x_at M1092 a151 1 (23 : Int32) = true := by rw [w1093]; exact h1075
  have h1119 : x_at M1092 a151 1 (24 : Int32) = true := by rw [w1093]; exact h1076
  have h1120 : x_at M1092 a151 1 (25 : Int32) = true := by rw [w1093]; exact h1077
  have h1121 : x_at M1092 a151 1 (26 : Int32) = true := by rw [w1093]; exact h1078
  have h1122 : x_at M1092 a151 1 (27 : Int32) = true := by rw [w1093]; exact h1079
  have h1123 : x_at M1092 a151 1 (28 : Int32) = true := by rw [w1093]; exact h1080
  have h1124 : x_at M1092 a151 1 (29 : Int32) = true := by rw [w1093]; exact h1081
  have h1125 : x_at M1092 a151 1 (30 : Int32) = true := by rw [w1093]; exact h1082
  have h1126 : x_at M1092 a151 1 (31 : Int32) = true := by rw [w1093]; exact h1083
  have h1127 : x_at M1092 a151 1 (32 : Int32) = true := by rw [w1093]; exact h1084
  have h1128 : x_at M1092 a151 1 (33 : Int32) = true := by rw [w1093]; exact h1085
  have h1129 : x_at M1092 a151 1 (34 : Int32) = true := by rw [w1093]; exact h1086
  have h1130 : x_at M1092 a151 1 (35 : Int32) = true := by rw [w1093]; exact h1087
  have h1131 : x_at M1092 a151 1 (36 : Int32) = true := by rw [w1093]; exact h1088
  have h1132 : x_at M1092 a151 1 (37 : Int32) = true := by rw [w1093]; exact h1089
  have h1133 : x_at M1092 a151 1 (38 : Int32) = true := by rw [w1093]; exact h1090
  have h1134 : x_at M1092 a151 1 (39 : Int32) = true := by rw [w1093]; exact h1091
  refine x_iast' 374 dX9_init_374 h1091 w1093 ?_
  refine x_dup 375 dX9_init_375 rfl ?_
  refine x_bipush 376 (40 : Int32) dX9_init_376 (by decide) ?_
  refine x_bipush 378 (115 : Int32) dX9_init_378 (by decide) ?_
  obtain ⟨h1135, H⟩ := x_ckp H
  obtain ⟨M1136, w1137, H⟩ := x_lt_of H
  have h1138 : x_tag M1136 a151 = 1 := by rw [w1137]; exact h1094
  have h1139 : x_at M1136 a151 1 (0 : Int32) = true := by rw [w1137]; exact h1095
  have h1140 : x_at M1136 a151 1 (1 : Int32) = true := by rw [w1137]; exact h1096
  have h1141 : x_at M1136 a151 1 (2 : Int32) = true := by rw [w1137]; exact h1097
  have h1142 : x_at M1136 a151 1 (3 : Int32) = true := by rw [w1137]; exact h1098
  have h1143 : x_at M1136 a151 1 (4 : Int32) = true := by rw [w1137]; exact h1099
  have h1144 : x_at M1136 a151 1 (5 : Int32) = true := by rw [w1137]; exact h1100
  have h1145 : x_at M1136 a151 1 (6 : Int32) = true := by rw [w1137]; exact h1101
  have h1146 : x_at M1136 a151 1 (7 : Int32) = true := by rw [w1137]; exact h1102
  have h1147 : x_at M1136 a151 1 (8 : Int32) = true := by rw [w1137]; exact h1103
  have h1148 : x_at M1136 a151 1 (9 : Int32) = true := by rw [w1137]; exact h1104
  have h1149 : x_at M1136 a151 1 (10 : Int32) = true := by rw [w1137]; exact h1105
  have h1150 : x_at M1136 a151 1 (11 : Int32) = true := by rw [w1137]; exact h1106
  have h1151 : x_at M1136 a151 1 (12 : Int32) = true := by rw [w1137]; exact h1107
  have h1152 : x_at M1136 a151 1 (13 : Int32) = true := by rw [w1137]; exact h1108
  have h1153 : x_at M1136 a151 1 (14 : Int32) = true := by rw [w1137]; exact h1109
  have h1154 : x_at M1136 a151 1 (15 : Int32) = true := by rw [w1137]; exact h1110
  have h1155 : x_at M1136 a151 1 (16 : Int32) = true := by rw [w1137]; exact h1111
  have h1156 : x_at M1136 a151 1 (17 : Int32) = true := by rw [w1137]; exact h1112
  have h1157 : x_at M1136 a151 1 (18 : Int32) = true := by rw [w1137]; exact h1113
  have h1158 : x_at M1136 a151 1 (19 : Int32) = true := by rw [w1137]; exact h1114
  have h1159 : x_at M1136 a151 1 (20 : Int32) = true := by rw [w1137]; exact h1115
  have h1160 : x_at M1136 a151 1 (21 : Int32) = true := by rw [w1137]; exact h1116
  have h1161 : x_at M1136 a151 1 (22 : Int32) = true := by rw [w1137]; exact h1117
  have h1162 : x_at M1136 a151 1 (23 : Int32) = true := by rw [w1137]; exact h1118
  have h1163 : x_at M1136 a151 1 (24 : Int32) = true := by rw [w1137]; exact h1119
  have h1164 : x_at M1136 a151 1 (25 : Int32) = true := by rw [w1137]; exact h1120
  have h1165 : x_at M1136 a151 1 (26 : Int32) = true := by rw [w1137]; exact h1121
  have h1166 : x_at M1136 a151 1 (27 : Int32) = true := by rw [w1137]; exact h1122
  have h1167 : x_at M1136 a151 1 (28 : Int32) = true := by rw [w1137]; exact h1123
  have h1168 : x_at M1136 a151 1 (29 : Int32) = true := by rw [w1137]; exact h1124
  have h1169 : x_at M1136 a151 1 (30 : Int32) = true := by rw [w1137]; exact h1125
  have h1170 : x_at M1136 a151 1 (31 : Int32) = true := by rw [w1137]; exact h1126
  have h1171 : x_at M1136 a151 1 (32 : Int32) = true := by rw [w1137]; exact h1127
  have h1172 : x_at M1136 a151 1 (33 : Int32) = true := by rw [w1137]; exact h1128
  have h1173 : x_at M1136 a151 1 (34 : Int32) = true := by rw [w1137]; exact h1129
  have h1174 : x_at M1136 a151 1 (35 : Int32) = true := by rw [w1137]; exact h1130
  have h1175 : x_at M1136 a151 1 (36 : Int32) = true := by rw [w1137]; exact h1131
  have h1176 : x_at M1136 a151 1 (37 : Int32) = true := by rw [w1137]; exact h1132
  have h1177 : x_at M1136 a151 1 (38 : Int32) = true := by rw [w1137]; exact h1133
  have h1178 : x_at M1136 a151 1 (39 : Int32) = true := by rw [w1137]; exact h1134
  have h1179 : x_at M1136 a151 1 (40 : Int32) = true := by rw [w1137]; exact h1135
  refine x_iast' 380 dX9_init_380 h1135 w1137 ?_
  refine x_dup 381 dX9_init_381 rfl ?_
  refine x_bipush 382 (41 : Int32) dX9_init_382 (by decide) ?_
  refine x_bipush 384 (107 : Int32) dX9_init_384 (by decide) ?_
  obtain ⟨h1180, H⟩ := x_ckp H
  obtain ⟨M1181, w1182, H⟩ := x_lt_of H
  have h1183 : x_tag M1181 a151 = 1 := by rw [w1182]; exact h1138
  have h1184 : x_at M1181 a151 1 (0 : Int32) = true := by rw [w1182]; exact h1139
  have h1185 : x_at M1181 a151 1 (1 : Int32) = true := by rw [w1182]; exact h1140
  have h1186 : x_at M1181 a151 1 (2 : Int32) = true := by rw [w1182]; exact h1141
  have h1187 : x_at M1181 a151 1 (3 : Int32) = true := by rw [w1182]; exact h1142
  have h1188 : x_at M1181 a151 1 (4 : Int32) = true := by rw [w1182]; exact h1143
  have h1189 : x_at M1181 a151 1 (5 : Int32) = true := by rw [w1182]; exact h1144
  have h1190 : x_at M1181 a151 1 (6 : Int32) = true := by rw [w1182]; exact h1145
  have h1191 : x_at M1181 a151 1 (7 : Int32) = true := by rw [w1182]; exact h1146
  have h1192 : x_at M1181 a151 1 (8 : Int32) = true := by rw [w1182]; exact h1147
  have h1193 : x_at M1181 a151 1 (9 : Int32) = true := by rw [w1182]; exact h1148
  have h1194 : x_at M1181 a151 1 (10 : Int32) = true := by rw [w1182]; exact h1149
  have h1195 : x_at M1181 a151 1 (11 : Int32) = true := by rw [w1182]; exact h1150
  have h1196 : x_at M1181 a151 1 (12 : Int32) = true := by rw [w1182]; exact h1151
  have h1197 : x_at M1181 a151 1 (13 : Int32) = true := by rw [w1182]; exact h1152
  have h1198 : x_at M1181 a151 1 (14 : Int32) = true := by rw [w1182]; exact h1153
  have h1199 : x_at M1181 a151 1 (15 : Int32) = true := by rw [w1182]; exact h1154
  have h1200 : x_at M1181 a151 1 (16 : Int32) = true := by rw [w1182]; exact h1155
  have h1201 : x_at M1181 a151 1 (17 : Int32) = true := by rw [w1182]; exact h1156
  have h1202 : x_at M1181 a151 1 (18 : Int32) = true := by rw [w1182]; exact h1157
  have h1203 : x_at M1181 a151 1 (19 : Int32) = true := by rw [w1182]; exact h1158
  have h1204 : x_at M1181 a151 1 (20 : Int32) = true := by rw [w1182]; exact h1159
  have h1205 : x_at M1181 a151 1 (21 : Int32) = true := by rw [w1182]; exact h1160
  have h1206 : x_at M1181 a151 1 (22 : Int32) = true := by rw [w1182]; exact h1161
  have h1207 : x_at M1181 a151 1 (23 : Int32) = true := by rw [w1182]; exact h1162
  have h1208 : x_at M1181 a151 1 (24 : Int32) = true := by rw [w1182]; exact h1163
  have h1209 : x_at M1181 a151 1 (25 : Int32) = true := by rw [w1182]; exact h1164
  have h1210 : x_at M1181 a151 1 (26 : Int32) = true := by rw [w1182]; exact h1165
  have h1211 : x_at M1181 a151 1 (27 : Int32) = true := by rw [w1182]; exact h1166
  have h1212 : x_at M1181 a151 1 (28 : Int32) = true := by rw [w1182]; exact h1167
  have h1213 : x_at M1181 a151 1 (29 : Int32) = true := by rw [w1182]; exact h1168
  have h1214 : x_at M1181 a151 1 (30 : Int32) = true := by rw [w1182]; exact h1169
  have h1215 : x_at M1181 a151 1 (31 : Int32) = true := by rw [w1182]; exact h1170
  have h1216 : x_at M1181 a151 1 (32 : Int32) = true := by rw [w1182]; exact h1171
  have h1217 : x_at M1181 a151 1 (33 : Int32) = true := by rw [w1182]; exact h1172
  have h1218 : x_at M1181 a151 1 (34 : Int32) = true := by rw [w1182]; exact h1173
  have h1219 : x_at M1181 a151 1 (35 : Int32) = true := by rw [w1182]; exact h1174
  have h1220 : x_at M1181 a151 1 (36 : Int32) = true := by rw [w1182]; exact h1175
  have h1221 : x_at M1181 a151 1 (37 : Int32) = true := by rw [w1182]; exact h1176
  have h1222 : x_at M1181 a151 1 (38 : Int32) = true := by rw [w1182]; exact h1177
  have h1223 : x_at M1181 a151 1 (39 : Int32) = true := by rw [w1182]; exact h1178
  have h1224 : x_at M1181 a151 1 (40 : Int32) = true := by rw [w1182]; exact h1179
  have h1225 : x_at M1181 a151 1 (41 : Int32) = true := by rw [w1182]; exact h1180
  refine x_iast' 386 dX9_init_386 h1180 w1182 ?_
  refine x_dup 387 dX9_init_387 rfl ?_
  refine x_bipush 388 (42 : Int32) dX9_init_388 (by decide) ?_
  refine x_bipush 390 (32 : Int32) dX9_init_390 (by decide) ?_
  obtain ⟨h1226, H⟩ := x_ckp H
  obtain ⟨M1227, w1228, H⟩ := x_lt_of H
  have h1229 : x_tag M1227 a151 = 1 := by rw [w1228]; exact h1183
  have h1230 : x_at M1227 a151 1 (0 : Int32) = true := by rw [w1228]; exact h1184
  have h1231 : x_at M1227 a151 1 (1 : Int32) = true := by rw [w1228]; exact h1185
  have h1232 : x_at M1227 a151 1 (2 : Int32) = true := by rw [w1228]; exact h1186
  have h1233 : x_at M1227 a151 1 (3 : Int32) = true := by rw [w1228]; exact h1187
  have h1234 : x_at M1227 a151 1 (4 : Int32) = true := by rw [w1228]; exact h1188
  have h1235 : x_at M1227 a151 1 (5 : Int32) = true := by rw [w1228]; exact h1189
  have h1236 : x_at M1227 a151 1 (6 : Int32) = true := by rw [w1228]; exact h1190
  have h1237 : x_at M1227 a151 1 (7 : Int32) = true := by rw [w1228]; exact h1191
  have h1238 : x_at M1227 a151 1 (8 : Int32) = true := by rw [w1228]; exact h1192
  have h1239 : x_at M1227 a151 1 (9 : Int32) = true := by rw [w1228]; exact h1193
  have h1240 : x_at M1227 a151 1 (10 : Int32) = true := by rw [w1228]; exact h1194
  have h1241 : x_at M1227 a151 1 (11 : Int32) = true := by rw [w1228]; exact h1195
  have h1242 : x_at M1227 a151 1 (12 : Int32) = true := by rw [w1228]; exact h1196
  have h1243 : x_at M1227 a151 1 (13 : Int32) = true := by rw [w1228]; exact h1197
  have h1244 : x_at M1227 a151 1 (14 : Int32) = true := by rw [w1228]; exact h1198
  have h1245 : x_at M1227 a151 1 (15 : Int32) = true := by rw [w1228]; exact h1199
  have h1246 : x_at M1227 a151 1 (16 : Int32) = true := by rw [w1228]; exact h1200
  have h1247 : x_at M1227 a151 1 (17 : Int32) = true := by rw [w1228]; exact h1201
  have h1248 : x_at M1227 a151 1 (18 : Int32) = true := by rw [w1228]; exact h1202
  have h1249 : x_at M1227 a151 1 (19 : Int32) = true := by rw [w1228]; exact h1203
  have h1250 : x_at M1227 a151 1 (20 : Int32) = true := by rw [w1228]; exact h1204
  have h1251 : x_at M1227 a151 1 (21 : Int32) = true := by rw [w1228]; exact h1205
  have h1252 : x_at M1227 a151 1 (22 : Int32) = true := by rw [w1228]; exact h1206
  have h1253 : x_at M1227 a151 1 (23 : Int32) = true := by rw [w1228]; exact h1207
  have h1254 : x_at M1227 a151 1 (24 : Int32) = true := by rw [w1228]; exact h1208
  have h1255 : x_at M1227 a151 1 (25 : Int32) = true := by rw [w1228]; exact h1209
  have h1256 : x_at M1227 a151 1 (26 : Int32) = true := by rw [w1228]; exact h1210
  have h1257 : x_at M1227 a151 1 (27 : Int32) = true := by rw [w1228]; exact h1211
  have h1258 : x_at M1227 a151 1 (28 : Int32) = true := by rw [w1228]; exact h1212
  have h1259 : x_at M1227 a151 1 (29 : Int32) = true := by rw [w1228]; exact h1213
  have h1260 : x_at M1227 a151 1 (30 : Int32) = true := by rw [w1228]; exact h1214
  have h1261 : x_at M1227 a151 1 (31 : Int32) = true := by rw [w1228]; exact h1215
  have h1262 : x_at M1227 a151 1 (32 : Int32) = true := by rw [w1228]; exact h1216
  have h1263 : x_at M1227 a151 1 (33 : Int32) = true := by rw [w1228]; exact h1217
  have h1264 : x_at M1227 a151 1 (34 : Int32) = true := by rw [w1228]; exact h1218
  have h1265 : x_at M1227 a151 1 (35 : Int32) = true := by rw [w1228]; exact h1219
  have h1266 : x_at M1227 a151 1 (36 : Int32) = true := by rw [w1228]; exact h1220
  have h1267 : x_at M1227 a151 1 (37 : Int32) = true := by rw [w1228]; exact h1221
  have h1268 : x_at M1227 a151 1 (38 : Int32) = true := by rw [w1228]; exact h1222
  have h1269 : x_at M1227 a151 1 (39 : Int32) = true := by rw [w1228]; exact h1223
  have h1270 : x_at M1227 a151 1 (40 : Int32) = true := by rw [w1228]; exact h1224
  have h1271 : x_at M1227 a151 1 (41 : Int32) = true := by rw [w1228]; exact h1225
  have h1272 : x_at M1227 a151 1 (42 : Int32) = true := by rw [w1228]; exact h1226
  refine x_iast' 392 dX9_init_392 h1226 w1228 ?_
  refine x_dup 393 dX9_init_393 rfl ?_
  refine x_bipush 394 (43 : Int32) dX9_init_394 (by decide) ?_
  refine x_iconst 396 (0 : Int32) dX9_init_396 (by decide) ?_
  obtain ⟨h1273, H⟩ := x_ckp H
  obtain ⟨M1274, w1275, H⟩ := x_lt_of H
  have h1276 : x_tag M1274 a151 = 1 := by rw [w1275]; exact h1229
  have h1277 : x_at M1274 a151 1 (0 : Int32) = true := by rw [w1275]; exact h1230
  have h1278 : x_at M1274 a151 1 (1 : Int32) = true := by rw [w1275]; exact h1231
  have h1279 : x_at M1274 a151 1 (2 : Int32) = true := by rw [w1275]; exact h1232
  have h1280 : x_at M1274 a151 1 (3 : Int32) = true := by rw [w1275]; exact h1233
  have h1281 : x_at M1274 a151 1 (4 : Int32) = true := by rw [w1275]; exact h1234
  have h1282 : x_at M1274 a151 1 (5 : Int32) = true := by rw [w1275]; exact h1235
  have h1283 : x_at M1274 a151 1 (6 : Int32) = true := by rw [w1275]; exact h1236
  have h1284 : x_at M1274 a151 1 (7 : Int32) = true := by rw [w1275]; exact h1237
  have h1285 : x_at M1274 a151 1 (8 : Int32) = true := by rw [w1275]; exact h1238
  have h1286 : x_at M1274 a151 1 (9 : Int32) = true := by rw [w1275]; exact h1239
  have h1287 : x_at M1274 a151 1 (10 : Int32) = true := by rw [w1275]; exact h1240
  have h1288 : x_at M1274 a151 1 (11 : Int32) = true := by rw [w1275]; exact h1241
  have h1289 : x_at M1274 a151 1 (12 : Int32) = true := by rw [w1275]; exact h1242
  have h1290 : x_at M1274 a151 1 (13 : Int32) = true := by rw [w1275]; exact h1243
  have h1291 : x_at M1274 a151 1 (14 : Int32) = true := by rw [w1275]; exact h1244
  have h1292 : x_at M1274 a151 1 (15 : Int32) = true := by rw [w1275]; exact h1245
  have h1293 : x_at M1274 a151 1 (16 : Int32) = true := by rw [w1275]; exact h1246
  have h1294 : x_at M1274 a151 1 (17 : Int32) = true := by rw [w1275]; exact h1247
  have h1295 : x_at M1274 a151 1 (18 : Int32) = true := by rw [w1275]; exact h1248
  have h1296 : x_at M1274 a151 1 (19 : Int32) = true := by rw [w1275]; exact h1249
  have h1297 : x_at M1274 a151 1 (20 : Int32) = true := by rw [w1275]; exact h1250
  have h1298 : x_at M1274 a151 1 (21 : Int32) = true := by rw [w1275]; exact h1251
  have h1299 : x_at M1274 a151 1 (22 : Int32) = true := by rw [w1275]; exact h1252
  have h1300 : x_at M1274 a151 1 (23 : Int32) = true := by rw [w1275]; exact h1253
  have h1301 : x_at M1274 a151 1 (24 : Int32) = true := by rw [w1275]; exact h1254
  have h1302 : x_at M1274 a151 1 (25 : Int32) = true := by rw [w1275]; exact h1255
  have h1303 : x_at M1274 a151 1 (26 : Int32) = true := by rw [w1275]; exact h1256
  have h1304 : x_at M1274 a151 1 (27 : Int32) = true := by rw [w1275]; exact h1257
  have h1305 : x_at M1274 a151 1 (28 : Int32) = true := by rw [w1275]; exact h1258
  have h1306 : x_at M1274 a151 1 (29 : Int32) = true := by rw [w1275]; exact h1259
  have h1307 : x_at M1274 a151 1 (30 : Int32) = true := by rw [w1275]; exact h1260
  have h1308 : x_at M1274 a151 1 (31 : Int32) = true := by rw [w1275]; exact h1261
  have h1309 : x_at M1274 a151 1 (32 : Int32) = true := by rw [w1275]; exact h1262
  have h1310 : x_at M1274 a151 1 (33 : Int32) = true := by rw [w1275]; exact h1263
  have h1311 : x_at M1274 a151 1 (34 : Int32) = true := by rw [w1275]; exact h1264
  have h1312 : x_at M1274 a151 1 (35 : Int32) = true := by rw [w1275]; exact h1265
  have h1313 : x_at M1274 a151 1 (36 : Int32) = true := by rw [w1275]; exact h1266
  have h1314 : x_at M1274 a151 1 (37 : Int32) = true := by rw [w1275]; exact h1267
  have h1315 : x_at M1274 a151 1 (38 : Int32) = true := by rw [w1275]; exact h1268
  have h1316 : x_at M1274 a151 1 (39 : Int32) = true := by rw [w1275]; exact h1269
  have h1317 : x_at M1274 a151 1 (40 : Int32) = true := by rw [w1275]; exact h1270
  have h1318 : x_at M1274 a151 1 (41 : Int32) = true := by rw [w1275]; exact h1271
  have h1319 : x_at M1274 a151 1 (42 : Int32) = true := by rw [w1275]; exact h1272
  have h1320 : x_at M1274 a151 1 (43 : Int32) = true := by rw [w1275]; exact h1273
  refine x_iast' 397 dX9_init_397 h1273 w1275 ?_
  obtain ⟨h1321, H⟩ := x_ckp H
  obtain ⟨M1322, w1323, H⟩ := x_lt_of H
  have h1324 : x_tag M1322 a151 = 1 := by rw [w1323]; exact h1276
  have h1325 : x_at M1322 a151 1 (0 : Int32) = true := by rw [w1323]; exact h1277
  have h1326 : x_at M1322 a151 1 (1 : Int32) = true := by rw [w1323]; exact h1278
  have h1327 : x_at M1322 a151 1 (2 : Int32) = true := by rw [w1323]; exact h1279
  have h1328 : x_at M1322 a151 1 (3 : Int32) = true := by rw [w1323]; exact h1280
  have h1329 : x_at M1322 a151 1 (4 : Int32) = true := by rw [w1323]; exact h1281
  have h1330 : x_at M1322 a151 1 (5 : Int32) = true := by rw [w1323]; exact h1282
  have h1331 : x_at M1322 a151 1 (6 : Int32) = true := by rw [w1323]; exact h1283
  have h1332 : x_at M1322 a151 1 (7 : Int32) = true := by rw [w1323]; exact h1284
  have h1333 : x_at M1322 a151 1 (8 : Int32) = true := by rw [w1323]; exact h1285
  have h1334 : x_at M1322 a151 1 (9 : Int32) = true := by rw [w1323]; exact h1286
  have h1335 : x_at M1322 a151 1 (10 : Int32) = true := by rw [w1323]; exact h1287
  have h1336 : x_at M1322 a151 1 (11 : Int32) = true := by rw [w1323]; exact h1288
  have h1337 : x_at M1322 a151 1 (12 : Int32) = true := by rw [w1323]; exact h1289
  have h1338 : x_at M1322 a151 1 (13 : Int32) = true := by rw [w1323]; exact h1290
  have h1339 : x_at M1322 a151 1 (14 : Int32) = true := by rw [w1323]; exact h1291
  have h1340 : x_at M1322 a151 1 (15 : Int32) = true := by rw [w1323]; exact h1292
  have h1341 : x_at M1322 a151 1 (16 : Int32) = true := by rw [w1323]; exact h1293
  have h1342 : x_at M1322 a151 1 (17 : Int32) = true := by rw [w1323]; exact h1294
  have h1343 : x_at M1322 a151 1 (18 : Int32) = true := by rw [w1323]; exact h1295
  have h1344 : x_at M1322 a151 1 (19 : Int32) = true := by rw [w1323]; exact h1296
  have h1345 : x_at M1322 a151 1 (20 : Int32) = true := by rw [w1323]; exact h1297
  have h1346 : x_at M1322 a151 1 (21 : Int32) = true := by rw [w1323]; exact h1298
  have h1347 : x_at M1322 a151 1 (22 : Int32) = true := by rw [w1323]; exact h1299
  have h1348 : x_at M1322 a151 1 (23 : Int32) = true := by rw [w1323]; exact h1300
  have h1349 : x_at M1322 a151 1 (24 : Int32) = true := by rw [w1323]; exact h1301
  have h1350 : x_at M1322 a151 1 (25 : Int32) = true := by rw [w1323]; exact h1302
  have h1351 : x_at M1322 a151 1 (26 : Int32) = true := by rw [w1323]; exact h1303
  have h1352 : x_at M1322 a151 1 (27 : Int32) = true := by rw [w1323]; exact h1304
  have h1353 : x_at M1322 a151 1 (28 : Int32) = true := by rw [w1323]; exact h1305
  have h1354 : x_at M1322 a151 1 (29 : Int32) = true := by rw [w1323]; exact h1306
  have h1355 : x_at M1322 a151 1 (30 : Int32) = true := by rw [w1323]; exact h1307
  have h1356 : x_at M1322 a151 1 (31 : Int32) = true := by rw [w1323]; exact h1308
  have h1357 : x_at M1322 a151 1 (32 : Int32) = true := by rw [w1323]; exact h1309
  have h1358 : x_at M1322 a151 1 (33 : Int32) = true := by rw [w1323]; exact h1310
  have h1359 : x_at M1322 a151 1 (34 : Int32) = true := by rw [w1323]; exact h1311
  have h1360 : x_at M1322 a151 1 (35 : Int32) = true := by rw [w1323]; exact h1312
  have h1361 : x_at M1322 a151 1 (36 : Int32) = true := by rw [w1323]; exact h1313
  have h1362 : x_at M1322 a151 1 (37 : Int32) = true := by rw [w1323]; exact h1314
  have h1363 : x_at M1322 a151 1 (38 : Int32) = true := by rw [w1323]; exact h1315
  have h1364 : x_at M1322 a151 1 (39 : Int32) = true := by rw [w1323]; exact h1316
  have h1365 : x_at M1322 a151 1 (40 : Int32) = true := by rw [w1323]; exact h1317
  have h1366 : x_at M1322 a151 1 (41 : Int32) = true := by rw [w1323]; exact h1318
  have h1367 : x_at M1322 a151 1 (42 : Int32) = true := by rw [w1323]; exact h1319
  have h1368 : x_at M1322 a151 1 (43 : Int32) = true := by rw [w1323]; exact h1320
  have h1369 : x_tag M1322 v0 = 9 + 10 := by rw [w1323]; exact h1321
  refine x_putR' 398 69 9 22 dX9_init_398 lk_1052 (by decide) (by decide) rfl (Or.inr ⟨_, rfl⟩) (Or.inr ⟨rfl, rfl⟩) h1321 w1323 ?_
  refine x_aload_n 401 0 dX9_init_401 rfl rfl ?_
  refine x_iconst 402 (2 : Int32) dX9_init_402 (by decide) ?_
  obtain ⟨a1371, M1370, w1372, w1373, H⟩ := x_al_of H
  refine x_newI' 403 2 dX9_init_403 lk_153 (by decide) (by decide) (by decide) (Nat.le_of_ble_eq_true rfl) (Nat.le_of_ble_eq_true rfl) w1372 w1373 ?_
  have h1374 : x_tag M1370 a1371 = 1 := x_al_tag w1372 w1373
  change AW _ _ _ _ _ _ 15 1564 _ _ _ _
  obtain ⟨h1375, H⟩ := x_ckp H
  obtain ⟨M1376, w1377, H⟩ := x_lt_of H
  have h1378 : x_tag M1376 a1371 = 1 := by rw [w1377]; exact h1374
  have h1379 : x_tag M1376 v0 = 9 + 10 := by rw [w1377]; exact h1375
  refine x_putR' 405 72 9 23 dX9_init_405 lk_1053 (by decide) (by decide) rfl (Or.inr ⟨_, rfl⟩) (Or.inr ⟨rfl, rfl⟩) h1375 w1377 ?_
  refine x_aload_n 408 0 dX9_init_408 rfl rfl ?_
  refine x_bipush 409 (50 : Int32) dX9_init_409 (by decide) ?_
  obtain ⟨a1381, M1380, w1382, w1383, H⟩ := x_al_of H
  refine x_newI' 411 50 dX9_init_411 lk_153 (by decide) (by decide) (by decide) (Nat.le_of_ble_eq_true rfl) (Nat.le_of_ble_eq_true rfl) w1382 w1383 ?_
  have h1384 : x_tag M1380 a1381 = 1 := x_al_tag w1382 w1383
  change AW _ _ _ _ _ _ 16 1614 _ _ _ _
  obtain ⟨h1385, H⟩ := x_ckp H
  obtain ⟨M1386, w1387, H⟩ := x_lt_of H
  have h1388 : x_tag M1386 a1381 = 1 := by rw [w1387]; exact h1384
  have h1389 : x_tag M1386 v0 = 9 + 10 := by rw [w1387]; exact h1385
  refine x_putR' 413 75 9 29 dX9_init_413 lk_1059 (by decide) (by decide) rfl (Or.inr ⟨_, rfl⟩) (Or.inr ⟨rfl, rfl⟩) h1385 w1387 ?_
  refine x_aload_n 416 0 dX9_init_416 rfl rfl ?_
  refine x_bipush 417 (50 : Int32) dX9_init_417 (by decide) ?_
  obtain ⟨a1391, M1390, w1392, w1393, H⟩ := x_al_of H
  refine x_newI' 419 50 dX9_init_419 lk_153 (by decide) (by decide) (by decide) (Nat.le_of_ble_eq_true rfl) (Nat.le_of_ble_eq_true rfl) w1392 w1393 ?_
  have h1394 : x_tag M1390 a1391 = 1 := x_al_tag w1392 w1393
  change AW _ _ _ _ _ _ 17 1664 _ _ _ _
  obtain ⟨h1395, H⟩ := x_ckp H
  obtain ⟨M1396, w1397, H⟩ := x_lt_of H
  have h1398 : x_tag M1396 a1391 = 1 := by rw [w1397]; exact h1394
  have h1399 : x_tag M1396 v0 = 9 + 10 := by rw [w1397]; exact h1395
  refine x_putR' 421 78 9 30 dX9_init_421 lk_1060 (by decide) (by decide) rfl (Or.inr ⟨_, rfl⟩) (Or.inr ⟨rfl, rfl⟩) h1395 w1397 ?_
  refine x_aload_n 424 0 dX9_init_424 rfl rfl ?_
  refine x_sipush 425 (2010 : Int32) dX9_init_425 (by decide) ?_
  obtain ⟨a1401, M1400, w1402, w1403, H⟩ := x_al_of H
  refine x_newI' 428 2010 dX9_init_428 lk_153 (by decide) (by decide) (by decide) (Nat.le_of_ble_eq_true rfl) (Nat.le_of_ble_eq_true rfl) w1402 w1403 ?_
  have h1404 : x_tag M1400 a1401 = 1 := x_al_tag w1402 w1403
  change AW _ _ _ _ _ _ 18 3674 _ _ _ _
  obtain ⟨h1405, H⟩ := x_ckp H
  obtain ⟨M1406, w1407, H⟩ := x_lt_of H
  have h1408 : x_tag M1406 a1401 = 1 := by rw [w1407]; exact h1404
  have h1409 : x_tag M1406 v0 = 9 + 10 := by rw [w1407]; exact h1405
  refine x_putR' 430 81 9 35 dX9_init_430 lk_1065 (by decide) (by decide) rfl (Or.inr ⟨_, rfl⟩) (Or.inr ⟨rfl, rfl⟩) h1405 w1407 ?_
  refine x_aload_n 433 0 dX9_init_433 rfl rfl ?_
  refine x_sipush 434 (2010 : Int32) dX9_init_434 (by decide) ?_
  obtain ⟨a1411, M1410, w1412, w1413, H⟩ := x_al_of H
  refine x_newI' 437 2010 dX9_init_437 lk_153 (by decide) (by decide) (by decide) (Nat.le_of_ble_eq_true rfl) (Nat.le_of_ble_eq_true rfl) w1412 w1413 ?_
  have h1414 : x_tag M1410 a1411 = 1 := x_al_tag w1412 w1413
  change AW _ _ _ _ _ _ 19 5684 _ _ _ _
  obtain ⟨h1415, H⟩ := x_ckp H
  obtain ⟨M1416, w1417, H⟩ := x_lt_of H
  have h1418 : x_tag M1416 a1411 = 1 := by rw [w1417]; exact h1414
  have h1419 : x_tag M1416 v0 = 9 + 10 := by rw [w1417]; exact h1415
  refine x_putR' 439 84 9 36 dX9_init_439 lk_1066 (by decide) (by decide) rfl (Or.inr ⟨_, rfl⟩) (Or.inr ⟨rfl, rfl⟩) h1415 w1417 ?_
  refine x_aload_n 442 0 dX9_init_442 rfl rfl ?_
  refine x_sipush 443 (402 : Int32) dX9_init_443 (by decide) ?_
  obtain ⟨a1421, M1420, w1422, w1423, H⟩ := x_al_of H
  refine x_newI' 446 402 dX9_init_446 lk_153 (by decide) (by decide) (by decide) (Nat.le_of_ble_eq_true rfl) (Nat.le_of_ble_eq_true rfl) w1422 w1423 ?_
  have h1424 : x_tag M1420 a1421 = 1 := x_al_tag w1422 w1423
  change AW _ _ _ _ _ _ 20 6086 _ _ _ _
  obtain ⟨h1425, H⟩ := x_ckp H
  obtain ⟨M1426, w1427, H⟩ := x_lt_of H
  have h1428 : x_tag M1426 a1421 = 1 := by rw [w1427]; exact h1424
  have h1429 : x_tag M1426 v0 = 9 + 10 := by rw [w1427]; exact h1425
  refine x_putR' 448 87 9 38 dX9_init_448 lk_1068 (by decide) (by decide) rfl (Or.inr ⟨_, rfl⟩) (Or.inr ⟨rfl, rfl⟩) h1425 w1427 ?_
  refine x_aload_n 451 0 dX9_init_451 rfl rfl ?_
  refine x_bipush 452 (20 : Int32) dX9_init_452 (by decide) ?_
  obtain ⟨a1431, M1430, w1432, w1433, H⟩ := x_al_of H
  refine x_newI' 454 20 dX9_init_454 lk_153 (by decide) (by decide) (by decide) (Nat.le_of_ble_eq_true rfl) (Nat.le_of_ble_eq_true rfl) w1432 w1433 ?_
  have h1434 : x_tag M1430 a1431 = 1 := x_al_tag w1432 w1433
  change AW _ _ _ _ _ _ 21 6106 _ _ _ _
  obtain ⟨h1435, H⟩ := x_ckp H
  obtain ⟨M1436, w1437, H⟩ := x_lt_of H
  have h1438 : x_tag M1436 a1431 = 1 := by rw [w1437]; exact h1434
  have h1439 : x_tag M1436 v0 = 9 + 10 := by rw [w1437]; exact h1435
  refine x_putR' 456 90 9 39 dX9_init_456 lk_1069 (by decide) (by decide) rfl (Or.inr ⟨_, rfl⟩) (Or.inr ⟨rfl, rfl⟩) h1435 w1437 ?_
  cases H
  exact x_vret 459 dX9_init_459 rfl (Nat.le_of_ble_eq_true rfl) (Nat.le_of_ble_eq_true rfl) ⟨rfl, rfl⟩

theorem ct_X9_init (l : Launch) {v0 : Nat} {M : XM} {q : XM} (H : f_X9_init v0 M = some q) : Ct l m_X9_init 1 21 6106 [(.ref v0)] M (x_Rv q) := x_met l m_X9_init 1 21 6106 [(.ref v0)] M (x_Rv q) _ rfl rfl (Nat.le_of_ble_eq_true rfl) (t_X9_init l H)
