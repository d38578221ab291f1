section
variable {l : Launch} {μ : XU} {d mc ms : Nat} {Φ : Option Value → XM → Prop} {u v : Nat} {L : List (Option Value)} {S : List Value} {M : XM}
/-! arrays of references, sizes, what nobody writes -/
theorem x_aast (t ci : Nat) (hci : ci < 10) (C : String) (hC : x_R ci = C) (j0 : Nat) (hj : ∀ Γ, (x_tys Γ)[j0]? = some (g_tc Γ t, .object C)) (hcell : ∀ (Γ : XG) (M : XM) (a : Nat), x_tag M a = t → x_cell Γ M a = .inl (g_tc Γ t, x_len M a, .inr (.inr (.inr (.inr (fun k => x_ad Γ (x_r M a k))))))) (h0 : t ≠ 0) (h5 : t ≠ 5) (h6 : t ≠ 6) (h7 : t ≠ 7) (h8 : t ≠ 8)
    (pc : Nat) {a w : Nat} {i : Int32} (hd : decode μ.2.1 pc = .ok (.aastore, 1)) (ht : x_at M a t i = true) (hw : x_tag M w = ci + 10) (k : AW l μ d mc ms Φ u v (pc + 1) L S (x_wr M a i.toNatClampNeg w)) : AW l μ d mc ms Φ u v pc L (.ref w :: .int i :: .ref a :: S) M := by
  intro p e Rm s m args below meth c H locs ls Γ Qf C hH hS hL F
  subst hC
  have ho := x_ownT hH (x_at_1 ht) h0 h5 h6 h7 h8
  have hov := x_ownC hH hw
  rw [List.map_cons, List.map_cons, List.map_cons, x_v_own ho.1, x_v_own hov.1]
  have he := x_ws_at (Γ := Γ) ho.1 ho.2
  have hev := x_ws_at (Γ := Γ) hov.1 hov.2
  rw [hcell Γ M a (x_at_1 ht)] at he
  rw [x_cell_obj hci hw] at hev
  have hc := hH.2.2.1 (a - 20) _ he
  have hK := C.2.2.2.2.2.2.2.2.2.2.2.2.1
  obtain ⟨r', hr', cellV, g1, g2, g3, -⟩ := hH.2.2.1 (w - 20) _ hev
  have hcls := (hK.1 ci _ (x_cl ci hci)).2
  obtain ⟨kA, comp, k1, k2, k3, -⟩ := (hK.2 j0 _ (hj Γ)).2
  have hcomp : comp = (g_D Γ).1 ci := Option.some.inj (k3.symm.trans hcls.1)
  subst hcomp
  obtain ⟨kC, hkC, -⟩ := hcls.2
  have h0' : ¬ i < 0 := fun q => x_at_2 ht (Or.inl q)
  have hlt : i.toNatClampNeg < x_len M a := Nat.not_le.mp fun q => x_at_2 ht (Or.inr q)
  refine W.aast C.1 C.2.1 hc (fun q h => by cases h) (fun h => by cases h) k1 k2 rfl hkC ⟨h0', by show _ < (arrV _ _ _).slots.size; rw [arrV_size]; exact hlt⟩ g1 (fun q h => by rw [g3] at h; cases h) (by rw [g2]; exact hkC) (by rw [g2]; exact va_assign hcls) rfl rfl hd fun H1 e1 z oq => ?_
  refine k p e Rm s m args below meth c H1 _ ls Γ Qf C (x_H_put hH ho (x_wv_1 M a _ (.ref w)) (x_wv_ro M a _ (.ref w) ho.1) (x_wv_oth M a _ (.ref w)) z oq ?_) (hS.put z oq x_adA) hL F
  rw [hcell Γ _ a (show x_tag (x_wr M a i.toNatClampNeg w) a = t from x_at_1 ht)]
  show H1[_]? = some (vp_cell _ _)
  rw [e1]
  rw [vp_cell_q, vp_cell_q, arrV_store]
  congr 2
  funext q
  by_cases hq : q = i.toNatClampNeg
  · subst hq
    show updV _ _ _ _ = va_rf (x_ad Γ (if a = a ∧ i.toNatClampNeg = i.toNatClampNeg then w else M.2.2.2 a i.toNatClampNeg))
    simp [updV, x_ad_own hov.1, va_rf]
  · show updV _ _ _ _ = va_rf (x_ad Γ (if a = a ∧ q = i.toNatClampNeg then w else M.2.2.2 a q))
    simp [updV, hq, x_r]
theorem x_aast3 (pc : Nat) {a w : Nat} {i : Int32} (hd : decode μ.2.1 pc = .ok (.aastore, 1)) (ht : x_at M a 3 i = true) (hw : x_tag M w = 2 + 10) (k : AW l μ d mc ms Φ u v (pc + 1) L S (x_wr M a i.toNatClampNeg w)) : AW l μ d mc ms Φ u v pc L (.ref w :: .int i :: .ref a :: S) M :=
  x_aast 3 2 (by decide) RX2 rfl 2 (fun _ => rfl) (fun _ _ _ h => x_cell_3 h) (by decide) (by decide) (by decide) (by decide) (by decide) pc hd ht hw k
theorem x_aast4 (pc : Nat) {a w : Nat} {i : Int32} (hd : decode μ.2.1 pc = .ok (.aastore, 1)) (ht : x_at M a 4 i = true) (hw : x_tag M w = 6 + 10) (k : AW l μ d mc ms Φ u v (pc + 1) L S (x_wr M a i.toNatClampNeg w)) : AW l μ d mc ms Φ u v pc L (.ref w :: .int i :: .ref a :: S) M :=
  x_aast 4 6 (by decide) RX6 rfl 3 (fun _ => rfl) (fun _ _ _ h => x_cell_4 h) (by decide) (by decide) (by decide) (by decide) (by decide) pc hd ht hw k
theorem x_alen (pc : Nat) {a : Nat} (t : Nat) (hd : decode μ.2.1 pc = .ok (.arraylength, 1)) (ht : x_tag M a = t) (h4 : t = 1 ∨ t = 2 ∨ t = 3 ∨ t = 4) (k : AW l μ d mc ms Φ u v (pc + 1) L (.int (Int32.ofNat (x_len M a)) :: S) M) : AW l μ d mc ms Φ u v pc L (.ref a :: S) M := by
  intro p e Rm s m args below meth c H locs ls Γ Qf C hH hS hL F
  have ho := x_ownT hH ht (by omega) (by omega) (by omega) (by omega) (by omega)
  rw [List.map_cons, x_v_own ho.1]
  have he := x_ws_at (Γ := Γ) ho.1 ho.2
  have hK := C.2.2.2.2.2.2.2.2.2.2.2.2.1
  have hk := k p e Rm s m args below meth c H locs ls Γ Qf C hH hS hL F
  rcases h4 with rfl | rfl | rfl | rfl
  · rw [x_cell_1 ht] at he
    exact va_alen (D := g_D Γ) (cl := vwCl) (tys := x_tys Γ) C.1 C.2.1 hK hH.2.2.1 (a - 20) 0 he rfl rfl hd hk
  · rw [x_cell_2 ht] at he
    exact va_alen (D := g_D Γ) (cl := vwCl) (tys := x_tys Γ) C.1 C.2.1 hK hH.2.2.1 (a - 20) 1 he rfl rfl hd hk
  · rw [x_cell_3 ht] at he
    exact va_alen (D := g_D Γ) (cl := vwCl) (tys := x_tys Γ) C.1 C.2.1 hK hH.2.2.1 (a - 20) 2 he rfl rfl hd hk
  · rw [x_cell_4 ht] at he
    exact va_alen (D := g_D Γ) (cl := vwCl) (tys := x_tys Γ) C.1 C.2.1 hK hH.2.2.1 (a - 20) 3 he rfl rfl hd hk
theorem x_ro5 {Γ : XG} {M : XM} {H : Heap} (hH : x_H Γ M H) {a : Nat} (ht : x_tag M a = 5) (ha : a < 20) : 1 ≤ a ∧ a < 5 := by
  unfold x_tag at ht
  rw [x_ro_tag hH ha] at ht
  match a, ha, ht with
  | 0, _, ht => exact absurd (show (0 : Nat) = 5 from ht) (by decide)
  | 1, _, _ => exact ⟨by decide, by decide⟩
  | 2, _, _ => exact ⟨by decide, by decide⟩
  | 3, _, _ => exact ⟨by decide, by decide⟩
  | 4, _, _ => exact ⟨by decide, by decide⟩
  | 5, _, ht => exact absurd (show (7 : Nat) = 5 from ht) (by decide)
  | 6, _, ht => exact absurd (show (7 : Nat) = 5 from ht) (by decide)
  | 7, _, ht => exact absurd (show (7 : Nat) = 5 from ht) (by decide)
  | 8, _, ht => exact absurd (show (7 : Nat) = 5 from ht) (by decide)
  | 9, _, ht => exact absurd (show (7 : Nat) = 5 from ht) (by decide)
  | 10, _, ht => exact absurd (show (7 : Nat) = 5 from ht) (by decide)
  | 11, _, ht => exact absurd (show (7 : Nat) = 5 from ht) (by decide)
  | 12, _, ht => exact absurd (show (6 : Nat) = 5 from ht) (by decide)
  | 13, _, ht => exact absurd (show (6 : Nat) = 5 from ht) (by decide)
  | 14, _, ht => exact absurd (show (6 : Nat) = 5 from ht) (by decide)
  | 15, _, ht => exact absurd (show (6 : Nat) = 5 from ht) (by decide)
  | 16, _, ht => exact absurd (show (6 : Nat) = 5 from ht) (by decide)
  | 17, _, ht => exact absurd (show (6 : Nat) = 5 from ht) (by decide)
  | 18, _, ht => exact absurd (show (6 : Nat) = 5 from ht) (by decide)
  | 19, _, ht => exact absurd (show (8 : Nat) = 5 from ht) (by decide)
  | n + 20, ha, _ => exact absurd ha (by omega)
theorem x_salen (pc : Nat) {a : Nat} (hd : decode μ.2.1 pc = .ok (.arraylength, 1)) (ht : x_tag M a = 5) (ha : a < 20) (k : AW l μ d mc ms Φ u v (pc + 1) L (.int (Int32.ofNat (x_len M a)) :: S) M) : AW l μ d mc ms Φ u v pc L (.ref a :: S) M := by
  intro p e Rm s m args below meth c H locs ls Γ Qf C hH hS hL F
  have hr := x_ro5 hH ht ha
  obtain ⟨t, e1, hT⟩ := C.2.2.2.2.2.2.2.2.2.2.2.2.2.2.1 a hr.1 hr.2
  have hv : x_v Γ (.ref a) = .ref t := by show va_rf (x_ad Γ a) = _; unfold x_ad; rw [if_pos ha, e1]; rfl
  rw [List.map_cons, hv]
  have hk := k p e Rm s m args below meth c H locs ls Γ Qf C hH hS hL F
  refine va_tlen C.1 C.2.1 hT hS (v := Int32.ofNat (x_len M a)) (by unfold x_len; rw [x_ro_tag hH ha]) hd hk
theorem x_siald (pc : Nat) {a : Nat} {i : Int32} (hd : decode μ.2.1 pc = .ok (.iaload, 1)) (ht : x_at M a 5 i = true) (ha : a < 20) (k : AW l μ d mc ms Φ u v (pc + 1) L (.int (x_i M a i.toNatClampNeg) :: S) M) : AW l μ d mc ms Φ u v pc L (.int i :: .ref a :: S) M := by
  intro p e Rm s m args below meth c H locs ls Γ Qf C hH hS hL F
  have hr := x_ro5 hH (x_at_1 ht) ha
  obtain ⟨t, e1, hT⟩ := C.2.2.2.2.2.2.2.2.2.2.2.2.2.2.1 a hr.1 hr.2
  have hv : x_v Γ (.ref a) = .ref t := by show va_rf (x_ad Γ a) = _; unfold x_ad; rw [if_pos ha, e1]; rfl
  rw [List.map_cons, List.map_cons, hv]
  have hk := k p e Rm s m args below meth c H locs ls Γ Qf C hH hS hL F
  have hin := x_at_2 ht
  unfold x_len at hin
  rw [x_ro_tag hH ha] at hin
  refine va_ti C.1 C.2.1 hT hS hin (v := .int (x_i M a i.toNatClampNeg)) (by rw [hH.2.2.2.1 a ha]) hd hk
theorem x_gets (pc idx a : Nat) (n ds : String) (hd : decode μ.2.1 pc = .ok (.getstatic idx, 3)) (C0 : String) (hZ : ∀ (Γ : XG) (U : State) (H : Heap), x_U Γ U H → va_Z C0 n ds (x_v Γ (.ref a)) (x_A Γ) U H) (hl : Cond.fieldLink μ.1.cls idx C0 n ds ∈ x_TB) (k : AW l μ d mc ms Φ u v (pc + 3) L (.ref a :: S) M) : AW l μ d mc ms Φ u v pc L S M := by
  intro p e Rm s m args below meth c H locs ls Γ Qf C hH hS hL F
  exact va_gets C.1 C.2.1 (hZ Γ s s.heap C.2.2.2.2.2.2.2.2.2.2.2.2) hS C.2.2.2.2.1 (C.2.2.2.2.2.1 _ hl) (fun x h => h) hd (k p e Rm s m args below meth c H locs ls Γ Qf C hH hS hL F)
theorem x_getsN (pc idx a : Nat) (n ds : String) (hd : decode μ.2.1 pc = .ok (.getstatic idx, 3)) (C0 host : String) (hZ : ∀ (Γ : XG) (U : State) (H : Heap), x_U Γ U H → va_Z C0 n ds (x_v Γ (.ref a)) (x_A Γ) U H) (hl : (μ.1.cls, idx, C0, n, ds, host) ∈ x_nestF) (k : AW l μ d mc ms Φ u v (pc + 3) L (.ref a :: S) M) : AW l μ d mc ms Φ u v pc L S M := by
  intro p e Rm s m args below meth c H locs ls Γ Qf C hH hS hL F
  have hU := C.2.2.2.2.2.2.2.2.2.2.2.2
  exact va_getsN C.1 C.2.1 (hZ Γ s s.heap hU) hS C.2.2.2.2.1 (va_Nw.use rfl (hU.2.2.2.2.2.2.2.2.2.2.1 _ hl)) (fun x h => h) hd (k p e Rm s m args below meth c H locs ls Γ Qf C hH hS hL F)
theorem x_getsC (pc idx : Nat) (hd : decode μ.2.1 pc = .ok (.getstatic idx, 3)) (hl : Cond.fieldLink μ.1.cls idx "java/lang/String" "COMPACT_STRINGS" "Z" ∈ x_TB) (k : AW l μ d mc ms Φ u v (pc + 3) L (.int 1 :: S) M) : AW l μ d mc ms Φ u v pc L S M := by
  intro p e Rm s m args below meth c H locs ls Γ Qf C hH hS hL F
  exact va_gets C.1 C.2.1 C.2.2.2.2.2.2.2.2.2.2.2.2.2.2.2.2.2.2.1 hS C.2.2.2.2.1 (C.2.2.2.2.2.1 _ hl) (fun x h => h) hd (k p e Rm s m args below meth c H locs ls Γ Qf C hH hS hL F)
theorem x_ZA (Γ : XG) (U : State) (H : Heap) (h : x_U Γ U H) : va_Z "WhatDidYouSay" "ABOVE" "[I" (x_v Γ (.ref 2)) (x_A Γ) U H := h.2.2.2.1
theorem x_ZL (Γ : XG) (U : State) (H : Heap) (h : x_U Γ U H) : va_Z "WhatDidYouSay" "LEAST" "[I" (x_v Γ (.ref 3)) (x_A Γ) U H := h.2.2.2.2.1
theorem x_ZM (Γ : XG) (U : State) (H : Heap) (h : x_U Γ U H) : va_Z "WhatDidYouSay" "MOST" "[I" (x_v Γ (.ref 4)) (x_A Γ) U H := h.2.2.2.2.2.1
theorem x_ZF (Γ : XG) (U : State) (H : Heap) (h : x_U Γ U H) : va_Z "jdk/internal/util/Preconditions" "SIOOBE_FORMATTER" "Ljava/util/function/BiFunction;" (x_v Γ (.ref 19)) (x_A Γ) U H := h.2.2.2.2.2.2.2.1
/-! String constants -/
theorem x_vro {Γ : XG} {a t : Nat} (ha : a < 20) (h : g_ro Γ a = some t) : x_v Γ (.ref a) = .ref t := by
  show va_rf (x_ad Γ a) = _
  unfold x_ad
  rw [if_pos ha, h]
  rfl
theorem x_ldcS (pc idx i : Nat) (hd : decode μ.2.1 pc = .ok (.ldc idx, 2)) (hi : i < 7) (hx : idx = 137 + 2 * i) (hown : μ.1.cls = RX5) (k : AW l μ d mc ms Φ u v (pc + 2) L (.ref (5 + i) :: S) M) : AW l μ d mc ms Φ u v pc L S M := by
  intro p e Rm s m args below meth c H locs ls Γ Qf C hH hS hL F
  obtain ⟨a, w, e1, e2, e3, -⟩ := C.2.2.2.2.2.2.2.2.2.2.2.2.2.2.2.2.2.2.2.2.1 i hi
  have hk := k p e Rm s m args below meth c H locs ls Γ Qf C hH hS hL F
  rw [List.map_cons, x_vro (by omega) e1] at hk
  subst hx
  exact va_ldcS C.1 C.2.1 (by rw [← hown]; exact C.2.2.2.2.1) e3 hd hk
theorem x_ro7 {Γ : XG} {M : XM} {H : Heap} (hH : x_H Γ M H) {a : Nat} (ht : x_tag M a = 7) (ha : a < 20) : ∃ i, i < 7 ∧ a = 5 + i := by
  unfold x_tag at ht
  rw [x_ro_tag hH ha] at ht
  match a, ha, ht with
  | 0, _, ht => exact absurd (show (0 : Nat) = 7 from ht) (by decide)
  | 1, _, ht => exact absurd (show (5 : Nat) = 7 from ht) (by decide)
  | 2, _, ht => exact absurd (show (5 : Nat) = 7 from ht) (by decide)
  | 3, _, ht => exact absurd (show (5 : Nat) = 7 from ht) (by decide)
  | 4, _, ht => exact absurd (show (5 : Nat) = 7 from ht) (by decide)
  | 5, _, _ => exact ⟨0, by omega, rfl⟩
  | 6, _, _ => exact ⟨1, by omega, rfl⟩
  | 7, _, _ => exact ⟨2, by omega, rfl⟩
  | 8, _, _ => exact ⟨3, by omega, rfl⟩
  | 9, _, _ => exact ⟨4, by omega, rfl⟩
  | 10, _, _ => exact ⟨5, by omega, rfl⟩
  | 11, _, _ => exact ⟨6, by omega, rfl⟩
  | 12, _, ht => exact absurd (show (6 : Nat) = 7 from ht) (by decide)
  | 13, _, ht => exact absurd (show (6 : Nat) = 7 from ht) (by decide)
  | 14, _, ht => exact absurd (show (6 : Nat) = 7 from ht) (by decide)
  | 15, _, ht => exact absurd (show (6 : Nat) = 7 from ht) (by decide)
  | 16, _, ht => exact absurd (show (6 : Nat) = 7 from ht) (by decide)
  | 17, _, ht => exact absurd (show (6 : Nat) = 7 from ht) (by decide)
  | 18, _, ht => exact absurd (show (6 : Nat) = 7 from ht) (by decide)
  | 19, _, ht => exact absurd (show (8 : Nat) = 7 from ht) (by decide)
  | n + 20, ha, _ => exact absurd ha (by omega)
theorem x_ro6 {Γ : XG} {M : XM} {H : Heap} (hH : x_H Γ M H) {a : Nat} (ht : x_tag M a = 6) (ha : a < 20) : ∃ i, i < 7 ∧ a = 12 + i := by
  unfold x_tag at ht
  rw [x_ro_tag hH ha] at ht
  match a, ha, ht with
  | 0, _, ht => exact absurd (show (0 : Nat) = 6 from ht) (by decide)
  | 1, _, ht => exact absurd (show (5 : Nat) = 6 from ht) (by decide)
  | 2, _, ht => exact absurd (show (5 : Nat) = 6 from ht) (by decide)
  | 3, _, ht => exact absurd (show (5 : Nat) = 6 from ht) (by decide)
  | 4, _, ht => exact absurd (show (5 : Nat) = 6 from ht) (by decide)
  | 5, _, ht => exact absurd (show (7 : Nat) = 6 from ht) (by decide)
  | 6, _, ht => exact absurd (show (7 : Nat) = 6 from ht) (by decide)
  | 7, _, ht => exact absurd (show (7 : Nat) = 6 from ht) (by decide)
  | 8, _, ht => exact absurd (show (7 : Nat) = 6 from ht) (by decide)
  | 9, _, ht => exact absurd (show (7 : Nat) = 6 from ht) (by decide)
  | 10, _, ht => exact absurd (show (7 : Nat) = 6 from ht) (by decide)
  | 11, _, ht => exact absurd (show (7 : Nat) = 6 from ht) (by decide)
  | 12, _, _ => exact ⟨0, by omega, rfl⟩
  | 13, _, _ => exact ⟨1, by omega, rfl⟩
  | 14, _, _ => exact ⟨2, by omega, rfl⟩
  | 15, _, _ => exact ⟨3, by omega, rfl⟩
  | 16, _, _ => exact ⟨4, by omega, rfl⟩
  | 17, _, _ => exact ⟨5, by omega, rfl⟩
  | 18, _, _ => exact ⟨6, by omega, rfl⟩
  | 19, _, ht => exact absurd (show (8 : Nat) = 6 from ht) (by decide)
  | n + 20, ha, _ => exact absurd ha (by omega)
theorem x_getVal (pc idx : Nat) {a : Nat} (hd : decode μ.2.1 pc = .ok (.getfield idx, 3)) (hl : Cond.fieldLink μ.1.cls idx "java/lang/String" "value" "[B" ∈ x_TB) (ht : x_tag M a = 7) (ha : a < 20) (k : AW l μ d mc ms Φ u v (pc + 3) L (.ref (a + 7) :: S) M) : AW l μ d mc ms Φ u v pc L (.ref a :: S) M := by
  intro p e Rm s m args below meth c H locs ls Γ Qf C hH hS hL F
  obtain ⟨i, hi, rfl⟩ := x_ro7 hH ht ha
  obtain ⟨t, w, e1, e2, e3, e4, e5, e6, e7⟩ := C.2.2.2.2.2.2.2.2.2.2.2.2.2.2.2.2.2.2.2.2.1 i hi
  have hk := k p e Rm s m args below meth c H locs ls Γ Qf C hH hS hL F
  rw [List.map_cons, x_vro (by omega) e1]
  rw [List.map_cons, show 5 + i + 7 = 12 + i by omega, x_vro (by omega) e2] at hk
  exact vk_getf C.1 C.2.1 e6 hS C.2.2.2.2.1 (C.2.2.2.2.2.1 _ hl) (fun x h => h) hd hk
theorem x_getCod (pc idx : Nat) {a : Nat} (hd : decode μ.2.1 pc = .ok (.getfield idx, 3)) (hl : Cond.fieldLink μ.1.cls idx "java/lang/String" "coder" "B" ∈ x_TB) (ht : x_tag M a = 7) (ha : a < 20) (k : AW l μ d mc ms Φ u v (pc + 3) L (.int 0 :: S) M) : AW l μ d mc ms Φ u v pc L (.ref a :: S) M := by
  intro p e Rm s m args below meth c H locs ls Γ Qf C hH hS hL F
  obtain ⟨i, hi, rfl⟩ := x_ro7 hH ht ha
  obtain ⟨t, w, e1, e2, e3, e4, e5, e6, e7⟩ := C.2.2.2.2.2.2.2.2.2.2.2.2.2.2.2.2.2.2.2.2.1 i hi
  have hk := k p e Rm s m args below meth c H locs ls Γ Qf C hH hS hL F
  rw [List.map_cons, x_vro (by omega) e1]
  exact vk_getf C.1 C.2.1 e5 hS C.2.2.2.2.1 (C.2.2.2.2.2.1 _ hl) (fun x h => h) hd hk
theorem x_bald (pc : Nat) {a : Nat} {i : Int32} (hd : decode μ.2.1 pc = .ok (.baload, 1)) (ht : x_at M a 6 i = true) (ha : a < 20) (k : AW l μ d mc ms Φ u v (pc + 1) L (.int (x_i M a i.toNatClampNeg) :: S) M) : AW l μ d mc ms Φ u v pc L (.int i :: .ref a :: S) M := by
  intro p e Rm s m args below meth c H locs ls Γ Qf C hH hS hL F
  have hin := x_at_2 ht
  unfold x_len at hin
  rw [x_ro_tag hH ha] at hin
  obtain ⟨j, hj, rfl⟩ := x_ro6 hH (x_at_1 ht) ha
  obtain ⟨t, w, e1, e2, e3, e4, e5, e6, e7⟩ := C.2.2.2.2.2.2.2.2.2.2.2.2.2.2.2.2.2.2.2.2.1 j hj
  have hk := k p e Rm s m args below meth c H locs ls Γ Qf C hH hS hL F
  rw [List.map_cons, List.map_cons, x_vro (by omega) e2]
  refine va_tb C.1 C.2.1 e7 hS hin (v := .int (x_i M (12 + j) i.toNatClampNeg)) (by rw [hH.2.2.2.1 _ ha]) hd hk
theorem x_balen (pc : Nat) {a : Nat} (hd : decode μ.2.1 pc = .ok (.arraylength, 1)) (ht : x_tag M a = 6) (ha : a < 20) (k : AW l μ d mc ms Φ u v (pc + 1) L (.int (Int32.ofNat (x_len M a)) :: S) M) : AW l μ d mc ms Φ u v pc L (.ref a :: S) M := by
  intro p e Rm s m args below meth c H locs ls Γ Qf C hH hS hL F
  have hlen : x_len M a = ((x_sh0 (g_L Γ)).getD a (0, 0)).2 := by unfold x_len; rw [x_ro_tag hH ha]
  obtain ⟨j, hj, rfl⟩ := x_ro6 hH ht ha
  obtain ⟨t, w, e1, e2, e3, e4, e5, e6, e7⟩ := C.2.2.2.2.2.2.2.2.2.2.2.2.2.2.2.2.2.2.2.2.1 j hj
  have hk := k p e Rm s m args below meth c H locs ls Γ Qf C hH hS hL F
  rw [List.map_cons, x_vro (by omega) e2]
  refine va_tlen C.1 C.2.1 e7 hS (v := Int32.ofNat (x_len M (12 + j))) (by rw [hlen]) hd hk
/-! making -/
theorem x_new_cell {Γ : XG} {M : XM} {t n b : Nat} (hb : b < x_n M) : x_cell Γ (x_new M t n) b = x_cell Γ M b := by
  have e1 : (x_new M t n).1.getD b (0, 0) = M.1.getD b (0, 0) := by
    show (M.1 ++ [(t, n)]).getD b (0, 0) = _
    rw [List.getD_eq_getElem?_getD, List.getD_eq_getElem?_getD, List.getElem?_append_left hb]
  have hne : b ≠ M.1.length := Nat.ne_of_lt hb
  have e2 : x_i (x_new M t n) b = x_i M b := by funext j; show (if b = M.1.length then 0 else M.2.1 b j) = _; rw [if_neg hne]; rfl
  have e3 : x_j (x_new M t n) b = x_j M b := by funext j; show (if b = M.1.length then 0 else M.2.2.1 b j) = _; rw [if_neg hne]; rfl
  have e4 : x_r (x_new M t n) b = x_r M b := by funext j; show (if b = M.1.length then 0 else M.2.2.2 b j) = _; rw [if_neg hne]; rfl
  simp only [x_cell, x_fs, x_fv, x_tag, x_len, e1, e2, e3, e4]
theorem x_new_tag (M : XM) (t n : Nat) : x_tag (x_new M t n) (x_n M) = t := by
  show ((M.1 ++ [(t, n)]).getD M.1.length (0, 0)).1 = t
  simp [List.getD_eq_getElem?_getD]
theorem x_new_len (M : XM) (t n : Nat) : x_len (x_new M t n) (x_n M) = n := by
  show ((M.1 ++ [(t, n)]).getD M.1.length (0, 0)).2 = n
  simp [List.getD_eq_getElem?_getD]
theorem x_H_new {Γ : XG} {M : XM} {H H1 : Heap} {t n : Nat} (hH : x_H Γ M H) (hz : H1.size = H.size + 1) (ho : ∀ q, q < H.size → H1[q]? = H[q]?) (he : va_at (g_D Γ) vwCl (H.size, x_cell Γ (x_new M t n) (x_n M)) H1) : x_H Γ (x_new M t n) H1 := by
  obtain ⟨g1, g2, g3, g4, g5⟩ := hH
  have hn : x_n (x_new M t n) = x_n M + 1 := by show (M.1 ++ [(t, n)]).length = _; simp [x_n]
  have hws : x_ws Γ (x_new M t n) = x_ws Γ M ++ [(H.size, x_cell Γ (x_new M t n) (x_n M))] := by
    unfold x_ws
    rw [hn, show x_n M + 1 - 20 = (x_n M - 20) + 1 by omega, List.range_succ, List.map_append]
    congr 1
    · apply List.map_congr_left
      intro k hk
      have := List.mem_range.mp hk
      rw [x_new_cell (by omega)]
    · simp only [List.map_cons, List.map_nil]
      rw [g2, show 20 + (x_n M - 20) = x_n M by omega]
  refine ⟨by omega, by omega, ?_, fun a ha j => ?_, ?_⟩
  · rw [hws]
    refine (g3.kept (fun k x hx => ho x.1 ((g3 k x hx).lt))).app (fun k x hx => ?_)
    have hz : k < 1 := (List.getElem?_eq_some_iff.mp hx).1
    rw [show k = 0 by omega] at hx
    cases hx
    exact he
  · have : x_i (x_new M t n) a j = x_i M a j := by show (if a = M.1.length then 0 else M.2.1 a j) = _; rw [if_neg (by unfold x_n at g1; omega)]; rfl
    rw [this]
    exact g4 a ha j
  · show (M.1 ++ [(t, n)]).take 20 = _
    rw [List.take_append_of_le_length g1]
    exact g5
theorem x_S_new {Γ : XG} {s : State} {H H1 : Heap} {locs : List Loc} (hS : va_S (x_A Γ) s.heap H locs) (hz : H1.size = H.size + 1) (ho : ∀ q, q < H.size → H1[q]? = H[q]?) : va_S (x_A Γ) s.heap H1 locs := ⟨Nat.le_trans hS.1 (by omega), fun x h1 h2 => (ho x (Nat.lt_of_lt_of_le h1 hS.1)).trans (hS.2.1 x h1 h2), hS.2.2⟩
theorem x_new_i (M : XM) (t n j : Nat) : x_i (x_new M t n) (x_n M) j = 0 := by show (if M.1.length = M.1.length then 0 else M.2.1 _ j) = _; rw [if_pos rfl]
theorem x_new_j (M : XM) (t n j : Nat) : x_j (x_new M t n) (x_n M) j = 0 := by show (if M.1.length = M.1.length then 0 else M.2.2.1 _ j) = _; rw [if_pos rfl]
theorem x_new_r (M : XM) (t n j : Nat) : x_r (x_new M t n) (x_n M) j = 0 := by show (if M.1.length = M.1.length then 0 else M.2.2.2 _ j) = _; rw [if_pos rfl]
theorem x_ty_ok (ci : Nat) (h : ci < 10) : ∀ k, k < x_N ci → x_ty ci k = .int ∨ x_ty ci k = .boolean ∨ (∃ n, x_ty ci k = .object n) ∨ ∃ t, x_ty ci k = .array t := by
  have key : ∀ ci, ci < 10 → ∀ k, k < x_N ci → (match x_ty ci k with | .int => true | .boolean => true | .object _ => true | .array _ => true | _ => false) = true := by decide +kernel
  intro k hk
  have := key ci h k hk
  cases hc : x_ty ci k <;> rw [hc] at this <;> first | (cases this; done) | exact Or.inl rfl | exact Or.inr (Or.inl rfl) | exact Or.inr (Or.inr (Or.inl ⟨_, rfl⟩)) | exact Or.inr (Or.inr (Or.inr ⟨_, rfl⟩))
theorem x_newc (pc idx ci : Nat) (hd : decode μ.2.1 pc = .ok (.new idx, 3)) (hci : ci < 10) (hcl : Cond.classLink μ.1.cls idx (x_R ci) ∈ x_TB) (hins : Cond.instantiable (x_R ci) (x_N ci) ∈ x_TB) (hini : Cond.initialized (x_R ci) ∈ x_TB) (hu : u + 1 ≤ mc) (hv : v + x_N ci ≤ ms)
    (k : AW l μ d mc ms Φ (u + 1) (v + x_N ci) (pc + 3) L (.ref (x_n M) :: S) (x_new M (ci + 10) 0)) : AW l μ d mc ms Φ u v pc L S M := by
  intro p e Rm s m args below meth c H locs ls Γ Qf C hH hS hL F
  obtain ⟨hx, hb, -, -, hown0, hts, -, -, -, -, hmc, hms, hU⟩ := id C
  have hKn := hU.1.1 ci _ (x_cl ci hci)
  refine W.newcK hx hb hown0 (hts _ hcl) (hts _ hins) (hts _ hini) rfl hd (by omega) (by omega) hKn.2.1 rfl fun H1 kC hkC e1 z1 o1 => ?_
  have hk := k p e Rm s m args below meth c H1 locs ls Γ Qf C (x_H_new hH z1 o1 ?_) (x_S_new hS z1 o1) hL F
  · rw [List.map_cons, x_v_own hH.1, ← hH.2.1] at hk
    exact hk
  · rw [x_cell_obj hci (x_new_tag M _ _)]
    refine ⟨_, x_cl ci hci, (u_born (x_ty ci) hts (x_uwt ci hci) hKn hkC e1 (x_tyok ci hci)).to ?_⟩
    intro j hj
    show defaultValue (x_ty ci j) = vp_V (x_fs Γ _ _ ci) j
    unfold vp_V
    rw [List.getD_eq_getElem?_getD, x_fs_at hj, Option.getD_some]
    have hnull : x_v Γ (.ref 0) = .null := by show va_rf (x_ad Γ 0) = _; unfold x_ad; rw [if_pos (by decide), hU.2.1]; rfl
    rcases x_ty_ok ci hci j hj with h | h | ⟨q, h⟩ | ⟨q, h⟩ <;> rw [h]
    · show _ = Value.int (x_i _ _ j); rw [x_new_i]; rfl
    · show _ = Value.int (x_i _ _ j); rw [x_new_i]; rfl
    · show _ = x_v Γ (.ref (x_r _ _ j)); rw [x_new_r, hnull]; rfl
    · show _ = x_v Γ (.ref (x_r _ _ j)); rw [x_new_r, hnull]; rfl
theorem x_newI (pc : Nat) {w : Int32} (n : Nat) (hd : decode μ.2.1 pc = .ok (.newarray .int, 2)) (hc : Cond.arrayClass (newarray.typeOf .int) ∈ x_TB) (h0 : ¬ w < 0) (hn : w.toNatClampNeg = n) (hby : n * 4 ≤ 536870912) (hu : u + 1 ≤ mc) (hv : v + n ≤ ms)
    (k : AW l μ d mc ms Φ (u + 1) (v + n) (pc + 2) L (.ref (x_n M) :: S) (x_new M 1 n)) : AW l μ d mc ms Φ u v pc L (.int w :: S) M := by
  intro p e Rm s m args below meth c H locs ls Γ Qf C hH hS hL F
  obtain ⟨hx, hb, -, -, hown0, hts, -, -, -, -, hmc, hms, hU⟩ := id C
  refine va_newaK hx hb (hts _ hc) rfl hd rfl h0 hn hby (by omega) (by omega) rfl fun H1 cA e1 z1 o1 hAr hNm => ?_
  have hcA : cA = g_tc Γ 1 := Option.some.inj (hNm.symm.trans (hU.1.2 0 _ rfl).2)
  subst hcA
  have hk := k p e Rm s m args below meth c H1 locs ls Γ Qf C (x_H_new hH z1 o1 ?_) (x_S_new hS z1 o1) hL F
  · rw [List.map_cons, x_v_own hH.1, ← hH.2.1] at hk
    exact hk
  · rw [x_cell_1 (x_new_tag M _ _), x_new_len]
    show H1[H.size]? = some (vp_cell _ _)
    rw [e1, vp_cell_i]
    congr 2
    funext j
    rw [x_new_i]
    rfl
theorem x_newL (pc : Nat) {w : Int32} (n : Nat) (hd : decode μ.2.1 pc = .ok (.newarray .long, 2)) (hc : Cond.arrayClass (newarray.typeOf .long) ∈ x_TB) (h0 : ¬ w < 0) (hn : w.toNatClampNeg = n) (hby : n * 8 ≤ 536870912) (hu : u + 1 ≤ mc) (hv : v + n ≤ ms)
    (k : AW l μ d mc ms Φ (u + 1) (v + n) (pc + 2) L (.ref (x_n M) :: S) (x_new M 2 n)) : AW l μ d mc ms Φ u v pc L (.int w :: S) M := by
  intro p e Rm s m args below meth c H locs ls Γ Qf C hH hS hL F
  obtain ⟨hx, hb, -, -, hown0, hts, -, -, -, -, hmc, hms, hU⟩ := id C
  refine va_newaK hx hb (hts _ hc) rfl hd rfl h0 hn hby (by omega) (by omega) rfl fun H1 cA e1 z1 o1 hAr hNm => ?_
  have hcA : cA = g_tc Γ 2 := Option.some.inj (hNm.symm.trans (hU.1.2 1 _ rfl).2)
  subst hcA
  have hk := k p e Rm s m args below meth c H1 locs ls Γ Qf C (x_H_new hH z1 o1 ?_) (x_S_new hS z1 o1) hL F
  · rw [List.map_cons, x_v_own hH.1, ← hH.2.1] at hk
    exact hk
  · rw [x_cell_2 (x_new_tag M _ _), x_new_len]
    show H1[H.size]? = some (vp_cell _ _)
    rw [e1, vp_cell_l]
    congr 2
    funext j
    rw [x_new_j]
    rfl
theorem x_anew (t ci j0 : Nat) (hj : ∀ Γ, (x_tys Γ)[j0]? = some (g_tc Γ t, .object (x_R ci))) (hcell : ∀ (Γ : XG) (M : XM) (a : Nat), x_tag M a = t → x_cell Γ M a = .inl (g_tc Γ t, x_len M a, .inr (.inr (.inr (.inr (fun k => x_ad Γ (x_r M a k))))))) (hAO : ∀ Γ U H, x_U Γ U H → va_AO (x_R ci) U) (pc idx : Nat) {w : Int32} (n : Nat) (hd : decode μ.2.1 pc = .ok (.anewarray idx, 3)) (hcl : Cond.classLink μ.1.cls idx (x_R ci) ∈ x_TB) (h0 : ¬ w < 0) (hn : w.toNatClampNeg = n) (hby : n * 4 ≤ 536870912) (hu : u + 1 ≤ mc) (hv : v + n ≤ ms)
    (k : AW l μ d mc ms Φ (u + 1) (v + n) (pc + 3) L (.ref (x_n M) :: S) (x_new M t n)) : AW l μ d mc ms Φ u v pc L (.int w :: S) M := by
  intro p e Rm s m args below meth c H locs ls Γ Qf C hH hS hL F
  obtain ⟨hx, hb, -, -, hown0, hts, -, -, -, -, hmc, hms, hU⟩ := id C
  subst hn
  refine W.anew hx hb hown0 (hts _ hcl) (va_AO.use (hAO Γ s s.heap hU)) rfl hd rfl h0 hby (by omega) (by omega) fun cA kA comp f1 f2 f3 f4 => ?_
  obtain ⟨kB, comp', k1, k2, k3, k4⟩ := (hU.1.2 j0 _ (hj Γ)).2
  have hcA : cA = g_tc Γ t := Option.some.inj (f1.symm.trans k4)
  subst hcA
  generalize hH1 : H.push ({ cls := g_tc Γ t, slots := Array.replicate w.toNatClampNeg .null, vm := .none } : Cell) = H1
  have z1 : H1.size = H.size + 1 := by rw [← hH1, Array.size_push]
  have e1 : H1[H.size]? = some (arrV (g_tc Γ t) w.toNatClampNeg (fun _ => .null)) := by rw [← hH1, Array.getElem?_push_size, ← arrV_new]
  have o1 : ∀ q : Nat, q < H.size → H1[q]? = H[q]? := fun q hq => by rw [← hH1, Array.getElem?_push, if_neg (Nat.ne_of_lt hq)]
  have hk := k p e Rm s m args below meth c H1 locs ls Γ Qf C (x_H_new hH z1 o1 ?_) (x_S_new hS z1 o1) hL F
  · rw [List.map_cons, x_v_own hH.1, ← hH.2.1] at hk
    exact hk
  · rw [hcell Γ _ _ (x_new_tag M _ _), x_new_len]
    show H1[H.size]? = some (vp_cell _ _)
    rw [e1, vp_cell_q]
    congr 2
    funext j
    rw [x_new_r]
    show Value.null = va_rf (x_ad Γ 0)
    unfold x_ad
    rw [if_pos (by decide), hU.2.1]
    rfl
theorem x_anew3 (pc idx : Nat) {w : Int32} (n : Nat) (hd : decode μ.2.1 pc = .ok (.anewarray idx, 3)) (hcl : Cond.classLink μ.1.cls idx RX2 ∈ x_TB) (h0 : ¬ w < 0) (hn : w.toNatClampNeg = n) (hby : n * 4 ≤ 536870912) (hu : u + 1 ≤ mc) (hv : v + n ≤ ms)
    (k : AW l μ d mc ms Φ (u + 1) (v + n) (pc + 3) L (.ref (x_n M) :: S) (x_new M 3 n)) : AW l μ d mc ms Φ u v pc L (.int w :: S) M :=
  x_anew 3 2 2 (fun _ => rfl) (fun _ _ _ h => x_cell_3 h) (fun _ _ _ h => h.2.2.2.2.2.2.2.2.2.2.2.1) pc idx n hd hcl h0 hn hby hu hv k
theorem x_anew4 (pc idx : Nat) {w : Int32} (n : Nat) (hd : decode μ.2.1 pc = .ok (.anewarray idx, 3)) (hcl : Cond.classLink μ.1.cls idx RX6 ∈ x_TB) (h0 : ¬ w < 0) (hn : w.toNatClampNeg = n) (hby : n * 4 ≤ 536870912) (hu : u + 1 ≤ mc) (hv : v + n ≤ ms)
    (k : AW l μ d mc ms Φ (u + 1) (v + n) (pc + 3) L (.ref (x_n M) :: S) (x_new M 4 n)) : AW l μ d mc ms Φ u v pc L (.int w :: S) M :=
  x_anew 4 6 3 (fun _ => rfl) (fun _ _ _ h => x_cell_4 h) (fun _ _ _ h => h.2.2.2.2.2.2.2.2.2.2.2.2) pc idx n hd hcl h0 hn hby hu hv k
end
