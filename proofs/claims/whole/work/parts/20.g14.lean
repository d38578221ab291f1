theorem lk_1069 : Cond.fieldLink RX9 298 RX9 "isKept" "Z" ∈ x_TB := x_tb (k := 1069) (by decide +kernel) rfl
abbrev m_X9_image : XU := (yX9_image, cX9_image, 1, (some .int))
theorem cn_X9_image : m_X9_image.1.cls ≠ "java/lang/invoke/MethodHandle" ∧ m_X9_image.1.cls ≠ "java/lang/invoke/VarHandle" ∧ (parseMethodDescriptor m_X9_image.1.desc).map (fun q => q.parameters.length) = some 0 := by decide +kernel
def f_X9_image (v0 : Nat) (M : XM) : Option (Int32 × XM) :=
  if x_tag M v0 = 9 + 10 then (x_lt (x_wi M v0 41 (1 : Int32)) (fun M2 => x_bv (f_X9_all v0 (x_r M2 v0 30) (0 : Int32) M2) (fun M5 => if x_tag M5 v0 = 9 + 10 then (some ((x_i M5 v0 0), M5)) else none))) else none
set_option maxRecDepth 20000 in
set_option maxHeartbeats 4000000 in
theorem t_X9_image (l : Launch) {v0 : Nat} {M : XM} {q : Int32 × XM} (H : f_X9_image v0 M = some q) : AW l m_X9_image 3 0 0 (x_Ri q) 0 0 0 [some (.ref v0)] [] M := by
  unfold f_X9_image at H
  refine x_aload_n 0 0 dX9_image_0 rfl rfl ?_
  refine x_iconst 1 (1 : Int32) dX9_image_1 (by decide) ?_
  obtain ⟨h1, H⟩ := x_ckp H
  obtain ⟨M2, w3, H⟩ := x_lt_of H
  have h4 : x_tag M2 v0 = 9 + 10 := by rw [w3]; exact h1
  refine x_putI' 2 298 9 41 dX9_image_2 lk_1069 (by decide) (by decide) rfl (Or.inr ⟨rfl, Or.inr rfl⟩) (Or.inl rfl) h1 w3 ?_
  refine x_aload_n 5 0 dX9_image_5 rfl rfl ?_
  refine x_aload_n 6 0 dX9_image_6 rfl rfl ?_
  refine x_getf 7 78 9 30 (.ref (x_r M2 v0 30)) dX9_image_7 lk_1058 (by decide) (by decide) rfl (fun _ => rfl) h4 ?_
  refine x_iconst 10 (0 : Int32) dX9_image_10 (by decide) ?_
  obtain ⟨M5, e7, H⟩ := x_bv_of H
  refine x_callV 11 176 9 [(.ref (x_r M2 v0 30)), (.int (0 : Int32))] [] dX9_image_11 (ct_X9_all l e7) lk_1231 lk_1233 lk_43 (by decide) h4 lk_94 lk_1234 ⟨cn_X9_all, (by decide), by decide⟩ rfl (Nat.le_of_ble_eq_true rfl) (Nat.le_of_ble_eq_true rfl) (Nat.le_of_ble_eq_true rfl) (x_rv ?_)
  refine x_aload_n 14 0 dX9_image_14 rfl rfl ?_
  obtain ⟨h8, H⟩ := x_ckp H
  refine x_getf 15 93 9 0 (.int (x_i M5 v0 0)) dX9_image_15 lk_1028 (by decide) (by decide) rfl (fun _ => rfl) h8 ?_
  cases H
  exact x_iret 18 dX9_image_18 .int rfl rfl (Nat.le_of_ble_eq_true rfl) (Nat.le_of_ble_eq_true rfl) ⟨rfl, rfl⟩

theorem ct_X9_image (l : Launch) {v0 : Nat} {M : XM} {q : Int32 × XM} (H : f_X9_image v0 M = some q) : Ct l m_X9_image 3 0 0 [(.ref v0)] M (x_Ri q) := x_met l m_X9_image 3 0 0 [(.ref v0)] M (x_Ri q) _ rfl rfl (Nat.le_of_ble_eq_true rfl) (t_X9_image l H)
abbrev m_X9_restore : XU := (yX9_restore, cX9_restore, 2, (some .int))
theorem cn_X9_restore : m_X9_restore.1.cls ≠ "java/lang/invoke/MethodHandle" ∧ m_X9_restore.1.cls ≠ "java/lang/invoke/VarHandle" ∧ (parseMethodDescriptor m_X9_restore.1.desc).map (fun q => q.parameters.length) = some 0 := by decide +kernel
def f_X9_restore_61 (κ25 : Nat → Int32 → XM → Option (Int32 × XM)) (v0 : Nat) (v1 : Int32) (M : XM) : Option (Int32 × XM) :=
  κ25 v0 (v1 + (1 : Int32)) M
set_option maxRecDepth 20000 in
set_option maxHeartbeats 4000000 in
theorem t_X9_restore_61 (l : Launch) {κ25 : Nat → Int32 → XM → Option (Int32 × XM)} {v0 : Nat} {v1 : Int32} {M : XM} {q : Int32 × XM} (hκ25 : ∀ (v0 : Nat) (v1 : Int32) (M : XM), κ25 v0 v1 M = some q → AW l m_X9_restore 3 0 0 (x_Ri q) 0 0 25 [some (.ref v0), some (.int v1)] [] M) (H : f_X9_restore_61 κ25 v0 v1 M = some q) : AW l m_X9_restore 3 0 0 (x_Ri q) 0 0 61 [some (.ref v0), some (.int v1)] [] M := by
  unfold f_X9_restore_61 at H
  refine x_iinc 61 1 (v1 + (1 : Int32)) [some (.ref v0), some (.int (v1 + (1 : Int32)))] dX9_restore_61 rfl (congrArg (fun z : Int32 => v1 + z) (show Int32.ofInt (1) = (1 : Int32) by decide)) rfl (Nat.le_of_ble_eq_true rfl) rfl ?_
  refine x_goto 64 25 dX9_restore_64 (by decide) ?_
  exact hκ25 _ _ _ H

def bd_X9_restore_25 (κ25 : Nat → Int32 → XM → Option (Int32 × XM)) (v0 : Nat) (v1 : Int32) (M : XM) : Option (Int32 × XM) :=
  if (8 : Int32) ≤ v1 then (if x_tag M v0 = 9 + 10 then (some ((x_i M v0 0), M)) else none) else (if x_tag M v0 = 9 + 10 then (if x_at M (x_r M v0 16) 1 v1 = true then (if (x_i M (x_r M v0 16) v1.toNatClampNeg) = (2 : Int32) then (if x_at M (x_r M v0 19) 1 v1 = true then (if (x_i M (x_r M v0 19) v1.toNatClampNeg) < (x_i M v0 0) then (f_X9_restore_61 κ25 v0 v1 M) else (x_lt (x_wi M (x_r M v0 16) v1.toNatClampNeg (0 : Int32)) (fun M16 => f_X9_restore_61 κ25 v0 v1 M16))) else none) else (f_X9_restore_61 κ25 v0 v1 M)) else none) else none)
set_option maxRecDepth 20000 in
set_option maxHeartbeats 4000000 in
theorem tb_X9_restore_25 (l : Launch) {κ25 : Nat → Int32 → XM → Option (Int32 × XM)} {v0 : Nat} {v1 : Int32} {M : XM} {q : Int32 × XM} (hκ25 : ∀ (v0 : Nat) (v1 : Int32) (M : XM), κ25 v0 v1 M = some q → AW l m_X9_restore 3 0 0 (x_Ri q) 0 0 25 [some (.ref v0), some (.int v1)] [] M) (H : bd_X9_restore_25 κ25 v0 v1 M = some q) : AW l m_X9_restore 3 0 0 (x_Ri q) 0 0 25 [some (.ref v0), some (.int v1)] [] M := by
  unfold bd_X9_restore_25 at H
  refine x_iload_n 25 1 dX9_restore_25 rfl rfl ?_
  refine x_bipush 26 (8 : Int32) dX9_restore_26 (by decide) ?_
  refine x_icmp_ge 28 67 dX9_restore_28 (by decide) (fun c9 => ?_) (fun c9 => ?_)
  · replace H := x_ifp c9 H
    refine x_aload_n 67 0 dX9_restore_67 rfl rfl ?_
    obtain ⟨h10, H⟩ := x_ckp H
    refine x_getf 68 93 9 0 (.int (x_i M v0 0)) dX9_restore_68 lk_1028 (by decide) (by decide) rfl (fun _ => rfl) h10 ?_
    cases H
    exact x_iret 71 dX9_restore_71 .int rfl rfl (Nat.le_of_ble_eq_true rfl) (Nat.le_of_ble_eq_true rfl) ⟨rfl, rfl⟩
  · replace H := x_ifn c9 H
    refine x_aload_n 31 0 dX9_restore_31 rfl rfl ?_
    obtain ⟨h11, H⟩ := x_ckp H
    refine x_getf 32 50 9 16 (.ref (x_r M v0 16)) dX9_restore_32 lk_1044 (by decide) (by decide) rfl (fun _ => rfl) h11 ?_
    refine x_iload_n 35 1 dX9_restore_35 rfl rfl ?_
    obtain ⟨h12, H⟩ := x_ckp H
    refine x_iald 36 dX9_restore_36 h12 ?_
    refine x_iconst 37 (2 : Int32) dX9_restore_37 (by decide) ?_
    refine x_icmp_ne 38 61 dX9_restore_38 (by decide) (fun c13 => ?_) (fun c13 => ?_)
    · replace H := x_ifn c13 H
      exact t_X9_restore_61 l hκ25 H
    · replace H := x_ifp c13 H
      refine x_aload_n 41 0 dX9_restore_41 rfl rfl ?_
      refine x_getf 42 59 9 19 (.ref (x_r M v0 19)) dX9_restore_42 lk_1047 (by decide) (by decide) rfl (fun _ => rfl) h11 ?_
      refine x_iload_n 45 1 dX9_restore_45 rfl rfl ?_
      obtain ⟨h14, H⟩ := x_ckp H
      refine x_iald 46 dX9_restore_46 h14 ?_
      refine x_aload_n 47 0 dX9_restore_47 rfl rfl ?_
      refine x_getf 48 93 9 0 (.int (x_i M v0 0)) dX9_restore_48 lk_1028 (by decide) (by decide) rfl (fun _ => rfl) h11 ?_
      refine x_icmp_lt 51 61 dX9_restore_51 (by decide) (fun c15 => ?_) (fun c15 => ?_)
      · replace H := x_ifp c15 H
        exact t_X9_restore_61 l hκ25 H
      · replace H := x_ifn c15 H
        refine x_aload_n 54 0 dX9_restore_54 rfl rfl ?_
        refine x_getf 55 50 9 16 (.ref (x_r M v0 16)) dX9_restore_55 lk_1044 (by decide) (by decide) rfl (fun _ => rfl) h11 ?_
        refine x_iload_n 58 1 dX9_restore_58 rfl rfl ?_
        refine x_iconst 59 (0 : Int32) dX9_restore_59 (by decide) ?_
        obtain ⟨M16, w17, H⟩ := x_lt_of H
        have h18 : x_tag M16 v0 = 9 + 10 := by rw [w17]; exact h11
        have h19 : x_at M16 (x_r M v0 16) 1 v1 = true := by rw [w17]; exact h12
        have h20 : x_tag M16 (x_r M v0 16) = 1 := by rw [w17]; exact (x_at_1 h12)
        have h21 : x_at M16 (x_r M v0 19) 1 v1 = true := by rw [w17]; exact h14
        have h22 : x_tag M16 (x_r M v0 19) = 1 := by rw [w17]; exact (x_at_1 h14)
        refine x_iast' 60 dX9_restore_60 h12 w17 ?_
        exact t_X9_restore_61 l hκ25 H

def lp_X9_restore_25 (n : Nat) : Nat → Int32 → XM → Option (Int32 × XM) := x_rec (fun _ _ _ => none) (bd_X9_restore_25) n
theorem t_X9_restore_25 (l : Launch) {q : Int32 × XM} : ∀ (n : Nat) (v0 : Nat) (v1 : Int32) (M : XM), lp_X9_restore_25 n v0 v1 M = some q → AW l m_X9_restore 3 0 0 (x_Ri q) 0 0 25 [some (.ref v0), some (.int v1)] [] M := by
  intro n
  induction n with
  | zero => intro v0 v1 M H; cases H
  | succ n ih => intro v0 v1 M H; exact tb_X9_restore_25 l ih H
def f_X9_restore (v0 : Nat) (M : XM) : Option (Int32 × XM) :=
  if x_tag M v0 = 9 + 10 then (if (x_i M v0 41) = 0 then (x_bd (f_X9_no v0 (-6 : Int32) M) (fun r4 M3 => some (r4, M3))) else (x_bv (f_X9_all v0 (x_r M v0 30) (1 : Int32) M) (fun M6 => lp_X9_restore_25 x_fuel v0 (0 : Int32) M6))) else none
set_option maxRecDepth 20000 in
set_option maxHeartbeats 4000000 in
theorem t_X9_restore (l : Launch) {v0 : Nat} {M : XM} {q : Int32 × XM} (H : f_X9_restore v0 M = some q) : AW l m_X9_restore 3 0 0 (x_Ri q) 0 0 0 [some (.ref v0), none] [] M := by
  unfold f_X9_restore at H
  refine x_aload_n 0 0 dX9_restore_0 rfl rfl ?_
  obtain ⟨h1, H⟩ := x_ckp H
  refine x_getf 1 298 9 41 (.int (x_i M v0 41)) dX9_restore_1 lk_1069 (by decide) (by decide) rfl (fun _ => rfl) h1 ?_
  refine x_if_ne 4 14 dX9_restore_4 (by decide) (fun c2 => ?_) (fun c2 => ?_)
  · replace H := x_ifn c2 H
    refine x_aload_n 14 0 dX9_restore_14 rfl rfl ?_
    refine x_aload_n 15 0 dX9_restore_15 rfl rfl ?_
    refine x_getf 16 78 9 30 (.ref (x_r M v0 30)) dX9_restore_16 lk_1058 (by decide) (by decide) rfl (fun _ => rfl) h1 ?_
    refine x_iconst 19 (1 : Int32) dX9_restore_19 (by decide) ?_
    obtain ⟨M6, e8, H⟩ := x_bv_of H
    refine x_callV 20 176 9 [(.ref (x_r M v0 30)), (.int (1 : Int32))] [] dX9_restore_20 (ct_X9_all l e8) lk_1231 lk_1233 lk_43 (by decide) h1 lk_94 lk_1234 ⟨cn_X9_all, (by decide), by decide⟩ rfl (Nat.le_of_ble_eq_true rfl) (Nat.le_of_ble_eq_true rfl) (Nat.le_of_ble_eq_true rfl) (x_rv ?_)
    refine x_iconst 23 (0 : Int32) dX9_restore_23 (by decide) ?_
    refine x_istore_n 24 1 [some (.ref v0), some (.int (0 : Int32))] dX9_restore_24 rfl rfl (Nat.le_of_ble_eq_true rfl) rfl ?_
    exact t_X9_restore_25 l _ _ _ _ H
  · replace H := x_ifp c2 H
    refine x_aload_n 7 0 dX9_restore_7 rfl rfl ?_
    refine x_bipush 8 (-6 : Int32) dX9_restore_8 (by decide) ?_
    obtain ⟨r4, M3, e5, H⟩ := x_bd_of H
    refine x_callV 10 100 9 [(.int (-6 : Int32))] [] dX9_restore_10 (ct_X9_no l e5) lk_1163 lk_1165 lk_37 (by decide) h1 lk_94 lk_1166 ⟨cn_X9_no, (by decide), by decide⟩ rfl (Nat.le_of_ble_eq_true rfl) (Nat.le_of_ble_eq_true rfl) (Nat.le_of_ble_eq_true rfl) (x_ri ?_)
    cases H
    exact x_iret 13 dX9_restore_13 .int rfl rfl (Nat.le_of_ble_eq_true rfl) (Nat.le_of_ble_eq_true rfl) ⟨rfl, rfl⟩

theorem ct_X9_restore (l : Launch) {v0 : Nat} {M : XM} {q : Int32 × XM} (H : f_X9_restore v0 M = some q) : Ct l m_X9_restore 3 0 0 [(.ref v0)] M (x_Ri q) := x_met l m_X9_restore 3 0 0 [(.ref v0)] M (x_Ri q) _ rfl rfl (Nat.le_of_ble_eq_true rfl) (t_X9_restore l H)
abbrev m_X9_status : XU := (yX9_status, cX9_status, 4, (some .int))
theorem cn_X9_status : m_X9_status.1.cls ≠ "java/lang/invoke/MethodHandle" ∧ m_X9_status.1.cls ≠ "java/lang/invoke/VarHandle" ∧ (parseMethodDescriptor m_X9_status.1.desc).map (fun q => q.parameters.length) = some 1 := by decide +kernel
def f_X9_status_107 (κ83 : Nat → Int32 → Int32 → XM → Option (Int32 × XM)) (v0 : Nat) (v2 : Int32) (v3 : Int32) (M : XM) : Option (Int32 × XM) :=
  κ83 v0 v2 (v3 + (1 : Int32)) M
set_option maxRecDepth 20000 in
set_option maxHeartbeats 4000000 in
theorem t_X9_status_107 (l : Launch) {κ83 : Nat → Int32 → Int32 → XM → Option (Int32 × XM)} {v0 : Nat} {v2 : Int32} {v3 : Int32} {M : XM} {q : Int32 × XM} (hκ83 : ∀ (v0 : Nat) (v2 : Int32) (v3 : Int32) (M : XM), κ83 v0 v2 v3 M = some q → AW l m_X9_status 1 0 0 (x_Ri q) 0 0 83 [some (.ref v0), none, some (.int v2), some (.int v3)] [] M) (H : f_X9_status_107 κ83 v0 v2 v3 M = some q) : AW l m_X9_status 1 0 0 (x_Ri q) 0 0 107 [some (.ref v0), none, some (.int v2), some (.int v3)] [] M := by
  unfold f_X9_status_107 at H
  refine x_iinc 107 3 (v3 + (1 : Int32)) [some (.ref v0), none, some (.int v2), some (.int (v3 + (1 : Int32)))] dX9_status_107 rfl (congrArg (fun z : Int32 => v3 + z) (show Int32.ofInt (1) = (1 : Int32) by decide)) rfl (Nat.le_of_ble_eq_true rfl) rfl ?_
  refine x_goto 110 83 dX9_status_110 (by decide) ?_
  exact hκ83 _ _ _ _ H

def bd_X9_status_83 (κ83 : Nat → Int32 → Int32 → XM → Option (Int32 × XM)) (v0 : Nat) (v2 : Int32) (v3 : Int32) (M : XM) : Option (Int32 × XM) :=
  if x_tag M v0 = 9 + 10 then (if (x_i M v0 0) ≤ v3 then (some (v2, M)) else (if x_at M (x_r M v0 12) 1 v3 = true then (if (x_i M (x_r M v0 12) v3.toNatClampNeg) = (x_i M v0 1) then (f_X9_status_107 κ83 v0 (v2 + (1 : Int32)) v3 M) else (f_X9_status_107 κ83 v0 v2 v3 M)) else none)) else none
set_option maxRecDepth 20000 in
set_option maxHeartbeats 4000000 in
theorem tb_X9_status_83 (l : Launch) {κ83 : Nat → Int32 → Int32 → XM → Option (Int32 × XM)} {v0 : Nat} {v2 : Int32} {v3 : Int32} {M : XM} {q : Int32 × XM} (hκ83 : ∀ (v0 : Nat) (v2 : Int32) (v3 : Int32) (M : XM), κ83 v0 v2 v3 M = some q → AW l m_X9_status 1 0 0 (x_Ri q) 0 0 83 [some (.ref v0), none, some (.int v2), some (.int v3)] [] M) (H : bd_X9_status_83 κ83 v0 v2 v3 M = some q) : AW l m_X9_status 1 0 0 (x_Ri q) 0 0 83 [some (.ref v0), none, some (.int v2), some (.int v3)] [] M := by
  unfold bd_X9_status_83 at H
  refine x_iload_n 83 3 dX9_status_83 rfl rfl ?_
  refine x_aload_n 84 0 dX9_status_84 rfl rfl ?_
  obtain ⟨h5, H⟩ := x_ckp H
  refine x_getf 85 93 9 0 (.int (x_i M v0 0)) dX9_status_85 lk_1028 (by decide) (by decide) rfl (fun _ => rfl) h5 ?_
  refine x_icmp_ge 88 113 dX9_status_88 (by decide) (fun c6 => ?_) (fun c6 => ?_)
  · replace H := x_ifp c6 H
    refine x_iload_n 113 2 dX9_status_113 rfl rfl ?_
    cases H
    exact x_iret 114 dX9_status_114 .int rfl rfl (Nat.le_of_ble_eq_true rfl) (Nat.le_of_ble_eq_true rfl) ⟨rfl, rfl⟩
  · replace H := x_ifn c6 H
    refine x_aload_n 91 0 dX9_status_91 rfl rfl ?_
    refine x_getf 92 38 9 12 (.ref (x_r M v0 12)) dX9_status_92 lk_1040 (by decide) (by decide) rfl (fun _ => rfl) h5 ?_
    refine x_iload_n 95 3 dX9_status_95 rfl rfl ?_
    obtain ⟨h7, H⟩ := x_ckp H
    refine x_iald 96 dX9_status_96 h7 ?_
    refine x_aload_n 97 0 dX9_status_97 rfl rfl ?_
    refine x_getf 98 7 9 1 (.int (x_i M v0 1)) dX9_status_98 lk_1029 (by decide) (by decide) rfl (fun _ => rfl) h5 ?_
    refine x_icmp_ne 101 107 dX9_status_101 (by decide) (fun c8 => ?_) (fun c8 => ?_)
    · replace H := x_ifn c8 H
      exact t_X9_status_107 l hκ83 H
    · replace H := x_ifp c8 H
      refine x_iinc 104 2 (v2 + (1 : Int32)) [some (.ref v0), none, some (.int (v2 + (1 : Int32))), some (.int v3)] dX9_status_104 rfl (congrArg (fun z : Int32 => v2 + z) (show Int32.ofInt (1) = (1 : Int32) by decide)) rfl (Nat.le_of_ble_eq_true rfl) rfl ?_
      exact t_X9_status_107 l hκ83 H

def lp_X9_status_83 (n : Nat) : Nat → Int32 → Int32 → XM → Option (Int32 × XM) := x_rec (fun _ _ _ _ => none) (bd_X9_status_83) n
theorem t_X9_status_83 (l : Launch) {q : Int32 × XM} : ∀ (n : Nat) (v0 : Nat) (v2 : Int32) (v3 : Int32) (M : XM), lp_X9_status_83 n v0 v2 v3 M = some q → AW l m_X9_status 1 0 0 (x_Ri q) 0 0 83 [some (.ref v0), none, some (.int v2), some (.int v3)] [] M := by
  intro n
  induction n with
  | zero => intro v0 v2 v3 M H; cases H
  | succ n ih => intro v0 v2 v3 M H; exact tb_X9_status_83 l ih H
def f_X9_status_22 (v0 : Nat) (v1 : Int32) (M : XM) : Option (Int32 × XM) :=
  if v1 = (0 : Int32) then (if x_tag M v0 = 9 + 10 then (some ((x_i M v0 0), M)) else none) else if v1 = (1 : Int32) then (lp_X9_status_83 x_fuel v0 (0 : Int32) (0 : Int32) M) else if v1 = (2 : Int32) then (if x_tag M v0 = 9 + 10 then (some ((x_i M v0 1), M)) else none) else if v1 = (3 : Int32) then (if x_tag M v0 = 9 + 10 then (some ((x_i M v0 2), M)) else none) else if v1 = (4 : Int32) then (if x_tag M v0 = 9 + 10 then (some ((x_i M v0 3), M)) else none) else if v1 = (5 : Int32) then (if x_tag M v0 = 9 + 10 then (some ((x_i M v0 4), M)) else none) else if v1 = (6 : Int32) then (if x_tag M v0 = 9 + 10 then (some ((x_i M v0 5), M)) else none) else if v1 = (7 : Int32) then (if x_tag M v0 = 9 + 10 then (some ((x_i M v0 7), M)) else none) else if v1 = (8 : Int32) then (if x_tag M v0 = 9 + 10 then (some ((x_i M v0 40), M)) else none) else some ((-1 : Int32), M)
set_option maxRecDepth 20000 in
set_option maxHeartbeats 4000000 in
theorem t_X9_status_22 (l : Launch) {v0 : Nat} {v1 : Int32} {M : XM} {q : Int32 × XM} (H : f_X9_status_22 v0 v1 M = some q) : AW l m_X9_status 1 0 0 (x_Ri q) 0 0 22 [some (.ref v0), some (.int v1), none, none] [] M := by
  unfold f_X9_status_22 at H
  refine x_iconst 22 (0 : Int32) dX9_status_22 (by decide) ?_
  refine x_istore_n 23 2 [some (.ref v0), some (.int v1), some (.int (0 : Int32)), none] dX9_status_23 rfl rfl (Nat.le_of_ble_eq_true rfl) rfl ?_
  refine x_iload_n 24 1 dX9_status_24 rfl rfl ?_
  by_cases c2 : v1 = (0 : Int32)
  · replace H := x_ifp c2 H
    refine x_tableIn (off := 51) 25 76 dX9_status_25 (by rw [c2]; decide) (by rw [c2]; decide) (by rw [c2]; rfl) (by decide) ?_
    refine x_aload_n 76 0 dX9_status_76 rfl rfl ?_
    obtain ⟨h3, H⟩ := x_ckp H
    refine x_getf 77 93 9 0 (.int (x_i M v0 0)) dX9_status_77 lk_1028 (by decide) (by decide) rfl (fun _ => rfl) h3 ?_
    cases H
    exact x_iret 80 dX9_status_80 .int rfl rfl (Nat.le_of_ble_eq_true rfl) (Nat.le_of_ble_eq_true rfl) ⟨rfl, rfl⟩
  · replace H := x_ifn c2 H
    by_cases c4 : v1 = (1 : Int32)
    · replace H := x_ifp c4 H
      refine x_tableIn (off := 56) 25 81 dX9_status_25 (by rw [c4]; decide) (by rw [c4]; decide) (by rw [c4]; rfl) (by decide) ?_
      refine x_iconst 81 (0 : Int32) dX9_status_81 (by decide) ?_
      refine x_istore_n 82 3 [some (.ref v0), some (.int v1), some (.int (0 : Int32)), some (.int (0 : Int32))] dX9_status_82 rfl rfl (Nat.le_of_ble_eq_true rfl) rfl ?_
      exact x_wk (le_s (le_n (le_s (le_s le_0)))) (t_X9_status_83 l _ _ _ _ _ H)
    · replace H := x_ifn c4 H
      by_cases c9 : v1 = (2 : Int32)
      · replace H := x_ifp c9 H
        refine x_tableIn (off := 90) 25 115 dX9_status_25 (by rw [c9]; decide) (by rw [c9]; decide) (by rw [c9]; rfl) (by decide) ?_
        refine x_aload_n 115 0 dX9_status_115 rfl rfl ?_
        obtain ⟨h10, H⟩ := x_ckp H
        refine x_getf 116 7 9 1 (.int (x_i M v0 1)) dX9_status_116 lk_1029 (by decide) (by decide) rfl (fun _ => rfl) h10 ?_
        cases H
        exact x_iret 119 dX9_status_119 .int rfl rfl (Nat.le_of_ble_eq_true rfl) (Nat.le_of_ble_eq_true rfl) ⟨rfl, rfl⟩
      · replace H := x_ifn c9 H
        by_cases c11 : v1 = (3 : Int32)
        · replace H := x_ifp c11 H
          refine x_tableIn (off := 95) 25 120 dX9_status_25 (by rw [c11]; decide) (by rw [c11]; decide) (by rw [c11]; rfl) (by decide) ?_
          refine x_aload_n 120 0 dX9_status_120 rfl rfl ?_
          obtain ⟨h12, H⟩ := x_ckp H
          refine x_getf 121 13 9 2 (.int (x_i M v0 2)) dX9_status_121 lk_1030 (by decide) (by decide) rfl (fun _ => rfl) h12 ?_
          cases H
          exact x_iret 124 dX9_status_124 .int rfl rfl (Nat.le_of_ble_eq_true rfl) (Nat.le_of_ble_eq_true rfl) ⟨rfl, rfl⟩
        · replace H := x_ifn c11 H
          by_cases c13 : v1 = (4 : Int32)
          · replace H := x_ifp c13 H
            refine x_tableIn (off := 100) 25 125 dX9_status_25 (by rw [c13]; decide) (by rw [c13]; decide) (by rw [c13]; rfl) (by decide) ?_
            refine x_aload_n 125 0 dX9_status_125 rfl rfl ?_
            obtain ⟨h14, H⟩ := x_ckp H
            refine x_getf 126 16 9 3 (.int (x_i M v0 3)) dX9_status_126 lk_1031 (by decide) (by decide) rfl (fun _ => rfl) h14 ?_
            cases H
            exact x_iret 129 dX9_status_129 .int rfl rfl (Nat.le_of_ble_eq_true rfl) (Nat.le_of_ble_eq_true rfl) ⟨rfl, rfl⟩
          · replace H := x_ifn c13 H
            by_cases c15 : v1 = (5 : Int32)
            · replace H := x_ifp c15 H
              refine x_tableIn (off := 105) 25 130 dX9_status_25 (by rw [c15]; decide) (by rw [c15]; decide) (by rw [c15]; rfl) (by decide) ?_
              refine x_aload_n 130 0 dX9_status_130 rfl rfl ?_
              obtain ⟨h16, H⟩ := x_ckp H
              refine x_getf 131 19 9 4 (.int (x_i M v0 4)) dX9_status_131 lk_1032 (by decide) (by decide) rfl (fun _ => rfl) h16 ?_
              cases H
              exact x_iret 134 dX9_status_134 .int rfl rfl (Nat.le_of_ble_eq_true rfl) (Nat.le_of_ble_eq_true rfl) ⟨rfl, rfl⟩
            · replace H := x_ifn c15 H
              by_cases c17 : v1 = (6 : Int32)
              · replace H := x_ifp c17 H
                refine x_tableIn (off := 110) 25 135 dX9_status_25 (by rw [c17]; decide) (by rw [c17]; decide) (by rw [c17]; rfl) (by decide) ?_
                refine x_aload_n 135 0 dX9_status_135 rfl rfl ?_
                obtain ⟨h18, H⟩ := x_ckp H
                refine x_getf 136 173 9 5 (.int (x_i M v0 5)) dX9_status_136 lk_1033 (by decide) (by decide) rfl (fun _ => rfl) h18 ?_
                cases H
                exact x_iret 139 dX9_status_139 .int rfl rfl (Nat.le_of_ble_eq_true rfl) (Nat.le_of_ble_eq_true rfl) ⟨rfl, rfl⟩
              · replace H := x_ifn c17 H
                by_cases c19 : v1 = (7 : Int32)
                · replace H := x_ifp c19 H
                  refine x_tableIn (off := 115) 25 140 dX9_status_25 (by rw [c19]; decide) (by rw [c19]; decide) (by rw [c19]; rfl) (by decide) ?_
                  refine x_aload_n 140 0 dX9_status_140 rfl rfl ?_
                  obtain ⟨h20, H⟩ := x_ckp H
                  refine x_getf 141 22 9 7 (.int (x_i M v0 7)) dX9_status_141 lk_1035 (by decide) (by decide) rfl (fun _ => rfl) h20 ?_
                  cases H
                  exact x_iret 144 dX9_status_144 .int rfl rfl (Nat.le_of_ble_eq_true rfl) (Nat.le_of_ble_eq_true rfl) ⟨rfl, rfl⟩
                · replace H := x_ifn c19 H
                  by_cases c21 : v1 = (8 : Int32)
                  · replace H := x_ifp c21 H
                    refine x_tableIn (off := 120) 25 145 dX9_status_25 (by rw [c21]; decide) (by rw [c21]; decide) (by rw [c21]; rfl) (by decide) ?_
                    refine x_aload_n 145 0 dX9_status_145 rfl rfl ?_
                    obtain ⟨h22, H⟩ := x_ckp H
                    refine x_getf 146 283 9 40 (.int (x_i M v0 40)) dX9_status_146 lk_1068 (by decide) (by decide) rfl (fun _ => rfl) h22 ?_
                    cases H
                    exact x_iret 149 dX9_status_149 .int rfl rfl (Nat.le_of_ble_eq_true rfl) (Nat.le_of_ble_eq_true rfl) ⟨rfl, rfl⟩
                  · replace H := x_ifn c21 H
                    refine x_tableOut 25 150 dX9_status_25 (by have n0 := lv_neT (a := 0) c2 (by decide); have n1 := lv_neT (a := 1) c4 (by decide); have n2 := lv_neT (a := 2) c9 (by decide); have n3 := lv_neT (a := 3) c11 (by decide); have n4 := lv_neT (a := 4) c13 (by decide); have n5 := lv_neT (a := 5) c15 (by decide); have n6 := lv_neT (a := 6) c17 (by decide); have n7 := lv_neT (a := 7) c19 (by decide); have n8 := lv_neT (a := 8) c21 (by decide); omega) (by decide) ?_
                    refine x_iconst 150 (-1 : Int32) dX9_status_150 (by decide) ?_
                    cases H
                    exact x_iret 151 dX9_status_151 .int rfl rfl (Nat.le_of_ble_eq_true rfl) (Nat.le_of_ble_eq_true rfl) ⟨rfl, rfl⟩

def f_X9_status (v0 : Nat) (v1 : Int32) (M : XM) : Option (Int32 × XM) :=
  if v1 < (11 : Int32) then (f_X9_status_22 v0 v1 M) else (if (17 : Int32) < v1 then (f_X9_status_22 v0 v1 M) else (if x_tag M v0 = 9 + 10 then (if x_at M (x_r M v0 9) 1 (v1 - (10 : Int32)) = true then (some ((x_i M (x_r M v0 9) (v1 - (10 : Int32)).toNatClampNeg), M)) else none) else none))
set_option maxRecDepth 20000 in
set_option maxHeartbeats 4000000 in
theorem t_X9_status (l : Launch) {v0 : Nat} {v1 : Int32} {M : XM} {q : Int32 × XM} (H : f_X9_status v0 v1 M = some q) : AW l m_X9_status 1 0 0 (x_Ri q) 0 0 0 [some (.ref v0), some (.int v1), none, none] [] M := by
  unfold f_X9_status at H
  refine x_iload_n 0 1 dX9_status_0 rfl rfl ?_
  refine x_bipush 1 (11 : Int32) dX9_status_1 (by decide) ?_
  refine x_icmp_lt 3 22 dX9_status_3 (by decide) (fun c1 => ?_) (fun c1 => ?_)
  · replace H := x_ifp c1 H
    exact t_X9_status_22 l H
  · replace H := x_ifn c1 H
    refine x_iload_n 6 1 dX9_status_6 rfl rfl ?_
    refine x_bipush 7 (17 : Int32) dX9_status_7 (by decide) ?_
    refine x_icmp_gt 9 22 dX9_status_9 (by decide) (fun c23 => ?_) (fun c23 => ?_)
    · replace H := x_ifp c23 H
      exact t_X9_status_22 l H
    · replace H := x_ifn c23 H
      refine x_aload_n 12 0 dX9_status_12 rfl rfl ?_
      obtain ⟨h24, H⟩ := x_ckp H
      refine x_getf 13 28 9 9 (.ref (x_r M v0 9)) dX9_status_13 lk_1037 (by decide) (by decide) rfl (fun _ => rfl) h24 ?_
      refine x_iload_n 16 1 dX9_status_16 rfl rfl ?_
      refine x_bipush 17 (10 : Int32) dX9_status_17 (by decide) ?_
      refine x_isub 19 dX9_status_19 ?_
      obtain ⟨h25, H⟩ := x_ckp H
      refine x_iald 20 dX9_status_20 h25 ?_
      cases H
      exact x_iret 21 dX9_status_21 .int rfl rfl (Nat.le_of_ble_eq_true rfl) (Nat.le_of_ble_eq_true rfl) ⟨rfl, rfl⟩

theorem ct_X9_status (l : Launch) {v0 : Nat} {v1 : Int32} {M : XM} {q : Int32 × XM} (H : f_X9_status v0 v1 M = some q) : Ct l m_X9_status 1 0 0 [(.ref v0), (.int v1)] M (x_Ri q) := x_met l m_X9_status 1 0 0 [(.ref v0), (.int v1)] M (x_Ri q) _ rfl rfl (Nat.le_of_ble_eq_true rfl) (t_X9_status l H)
