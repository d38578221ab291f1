section
variable {l : Launch} {μ : XU} {d mc ms : Nat} {Φ : Option Value → XM → Prop} {u v : Nat} {L : List (Option Value)} {S : List Value} {M : XM}
theorem x_cell_eq {Γ : XG} {M M' : XM} {b : Nat} (h1 : M'.1 = M.1) (hi : x_i M' b = x_i M b) (hj : x_j M' b = x_j M b) (hr : x_r M' b = x_r M b) : x_cell Γ M' b = x_cell Γ M b := by
  simp only [x_cell, x_fs, x_fv, x_tag, x_len, h1, hi, hj, hr]
theorem x_cell_obj {Γ : XG} {M : XM} {a ci : Nat} (hc : ci < 10) (ht : x_tag M a = ci + 10) : x_cell Γ M a = .inr (ci, x_fs Γ M a ci) := by
  match ci, hc, ht with
  | 0, _, ht => unfold x_cell; rw [ht]; rfl
  | 1, _, ht => unfold x_cell; rw [ht]; rfl
  | 2, _, ht => unfold x_cell; rw [ht]; rfl
  | 3, _, ht => unfold x_cell; rw [ht]; rfl
  | 4, _, ht => unfold x_cell; rw [ht]; rfl
  | 5, _, ht => unfold x_cell; rw [ht]; rfl
  | 6, _, ht => unfold x_cell; rw [ht]; rfl
  | 7, _, ht => unfold x_cell; rw [ht]; rfl
  | 8, _, ht => unfold x_cell; rw [ht]; rfl
  | 9, _, ht => unfold x_cell; rw [ht]; rfl
theorem x_cell_1 {Γ : XG} {M : XM} {a : Nat} (ht : x_tag M a = 1) : x_cell Γ M a = .inl (g_tc Γ 1, x_len M a, .inl (x_i M a)) := by unfold x_cell; rw [ht]; rfl
theorem x_cell_2 {Γ : XG} {M : XM} {a : Nat} (ht : x_tag M a = 2) : x_cell Γ M a = .inl (g_tc Γ 2, x_len M a, .inr (.inl (x_j M a))) := by unfold x_cell; rw [ht]; rfl
theorem x_cell_3 {Γ : XG} {M : XM} {a : Nat} (ht : x_tag M a = 3) : x_cell Γ M a = .inl (g_tc Γ 3, x_len M a, .inr (.inr (.inr (.inr (fun k => x_ad Γ (x_r M a k)))))) := by unfold x_cell; rw [ht]; rfl
theorem x_cell_4 {Γ : XG} {M : XM} {a : Nat} (ht : x_tag M a = 4) : x_cell Γ M a = .inl (g_tc Γ 4, x_len M a, .inr (.inr (.inr (.inr (fun k => x_ad Γ (x_r M a k)))))) := by unfold x_cell; rw [ht]; rfl
theorem x_ownT {Γ : XG} {M : XM} {H : Heap} (hH : x_H Γ M H) {a t : Nat} (ht : x_tag M a = t) (h0 : t ≠ 0) (h5 : t ≠ 5) (h6 : t ≠ 6) (h7 : t ≠ 7) (h8 : t ≠ 8) : 20 ≤ a ∧ a < x_n M :=
  x_own hH (by rw [ht]; exact h0) (by rw [ht]; exact h5) (by rw [ht]; exact h6) (by rw [ht]; exact h7) (by rw [ht]; exact h8)
theorem x_ownC {Γ : XG} {M : XM} {H : Heap} (hH : x_H Γ M H) {a ci : Nat} (ht : x_tag M a = ci + 10) : 20 ≤ a ∧ a < x_n M :=
  x_ownT hH ht (by omega) (by omega) (by omega) (by omega) (by omega)
theorem x_fs_at {Γ : XG} {M : XM} {a ci k : Nat} (hk : k < x_N ci) : (x_fs Γ M a ci)[k]? = some (x_fv Γ M a (x_ty ci k) k) := by
  unfold x_fs
  rw [List.getElem?_map, List.getElem?_range hk]
  rfl
theorem x_H_put {Γ : XG} {M M' : XM} {H H1 : Heap} {a : Nat} (hH : x_H Γ M H) (ha : 20 ≤ a ∧ a < x_n M) (h1 : M'.1 = M.1) (hro : ∀ b, b < 20 → ∀ j, x_i M' b j = x_i M b j) (hoth : ∀ b, b ≠ a → x_cell Γ M' b = x_cell Γ M b)
    (hz : H1.size = H.size) (oq : ∀ q : Nat, q ≠ g_b Γ + (a - 20) → H1[q]? = H[q]?) (he : va_at (g_D Γ) vwCl (g_b Γ + (a - 20), x_cell Γ M' a) H1) : x_H Γ M' H1 := by
  obtain ⟨g1, g2, g3, g4, g5⟩ := hH
  have hn : x_n M' = x_n M := by unfold x_n; rw [h1]
  refine ⟨by rw [hn]; exact g1, by rw [hn, hz]; exact g2, ?_, fun b hb j => (hro b hb j).trans (g4 b hb j), by rw [h1]; exact g5⟩
  have := g3.set (x_ws_D Γ M) (x_ws_at ha.1 ha.2) he oq
  rwa [x_ws_set ha.1 ha.2 hn rfl hoth] at this
theorem x_adA {Γ : XG} {a : Nat} : x_A Γ (g_b Γ + (a - 20)) := Nat.le_add_right _ _
/-! fields -/
theorem x_getf (pc idx ci kf : Nat) {a : Nat} (w : Value) (hd : decode μ.2.1 pc = .ok (.getfield idx, 3)) (hl : Cond.fieldLink μ.1.cls idx (x_R ci) (x_T ci kf).2.1 (x_T ci kf).2.2.1 ∈ x_TB) (hci : ci < 10) (hk : kf < x_N ci) (hown : (x_T ci kf).1 = x_R ci) (hw : ∀ Γ, x_fv Γ M a (x_ty ci kf) kf = x_v Γ w) (ht : x_tag M a = ci + 10)
    (k : AW l μ d mc ms Φ u v (pc + 3) L (w :: S) M) : AW l μ d mc ms Φ u v pc L (.ref a :: S) M := by
  intro p e Rm s m args below meth c H locs ls Γ Qf C hH hS hL F
  have ho := x_ownC hH ht
  rw [List.map_cons, x_v_own ho.1]
  have he := x_ws_at (Γ := Γ) ho.1 ho.2
  rw [x_cell_obj hci ht] at he
  refine va_get (D := g_D Γ) (cl := vwCl) (tys := x_tys Γ) C.1 C.2.1 C.2.2.2.2.2.1 (x_uwt ci hci) C.2.2.2.2.1 C.2.2.2.2.2.2.2.2.2.2.2.2.1 hH.2.2.1 (a - 20) he (x_cl ci hci) kf hk (C.2.2.2.2.2.1 _ hl) (fun x h => by rw [hown] at h; exact h) (v := x_v Γ w) (by rw [x_fs_at hk, hw]) hd ?_
  exact k p e Rm s m args below meth c H locs ls Γ Qf C hH hS hL F
/-- what may lie in a field -/
def x_fits (ty : FieldType) (w : Value) : Prop := match w with
  | .int z => ty = .int ∨ (ty = .boolean ∧ (z = 0 ∨ z = 1))
  | .long _ => ty = .long
  | .ref _ => (∃ n, ty = .object n) ∨ ∃ t, ty = .array t
  | _ => False
theorem x_fits_ok {Γ : XG} {ty : FieldType} {w : Value} (h : x_fits ty w) : narrow ty (x_v Γ w) = x_v Γ w ∧ fits ty (x_v Γ w) = true := by
  cases w with
  | int z =>
    rcases h with rfl | ⟨rfl, rfl | rfl⟩
    · exact ⟨rfl, rfl⟩
    · exact ⟨rfl, rfl⟩
    · exact ⟨rfl, rfl⟩
  | long z => cases h; exact ⟨rfl, rfl⟩
  | ref a =>
    show narrow ty (va_rf (x_ad Γ a)) = va_rf (x_ad Γ a) ∧ fits ty (va_rf (x_ad Γ a)) = true
    rcases h with ⟨n, rfl⟩ | ⟨t, rfl⟩ <;> cases x_ad Γ a <;> exact ⟨rfl, rfl⟩
  | _ => exact h.elim
def x_wv (M : XM) (a k : Nat) (w : Value) : XM := match w with
  | .int z => x_wi M a k z
  | .long z => x_wj M a k z
  | .ref z => x_wr M a k z
  | _ => M
theorem x_wv_1 (M : XM) (a k : Nat) (w : Value) : (x_wv M a k w).1 = M.1 := by cases w <;> rfl
theorem x_wv_ro (M : XM) (a k : Nat) (w : Value) (ha : 20 ≤ a) : ∀ b, b < 20 → ∀ j, x_i (x_wv M a k w) b j = x_i M b j := by
  intro b hb j
  cases w with
  | int z =>
    show (if b = a ∧ j = k then z else M.2.1 b j) = _
    rw [if_neg (by omega)]
    rfl
  | _ => rfl
theorem x_wv_oth {Γ : XG} (M : XM) (a k : Nat) (w : Value) : ∀ b, b ≠ a → x_cell Γ (x_wv M a k w) b = x_cell Γ M b := by
  intro b hb
  refine x_cell_eq (x_wv_1 M a k w) ?_ ?_ ?_
  · funext j
    cases w with
    | int z =>
      show (if b = a ∧ j = k then z else M.2.1 b j) = _
      rw [if_neg (fun q => hb q.1)]
      rfl
    | _ => rfl
  · funext j
    cases w with
    | long z =>
      show (if b = a ∧ j = k then z else M.2.2.1 b j) = _
      rw [if_neg (fun q => hb q.1)]
      rfl
    | _ => rfl
  · funext j
    cases w with
    | ref z =>
      show (if b = a ∧ j = k then z else M.2.2.2 b j) = _
      rw [if_neg (fun q => hb q.1)]
      rfl
    | _ => rfl
theorem x_wv_fv {Γ : XG} (M : XM) (a k j : Nat) (w : Value) (tk tj : FieldType) (h : x_fits tk w) (hj : j = k → tj = tk) : x_fv Γ (x_wv M a k w) a tj j = if j = k then x_v Γ w else x_fv Γ M a tj j := by
  by_cases hjk : j = k
  · subst hjk
    rw [if_pos rfl, hj rfl]
    cases w with
    | int z =>
      have e : x_i (x_wv M a j (.int z)) a j = z := by show (if a = a ∧ j = j then z else M.2.1 a j) = z; rw [if_pos ⟨rfl, rfl⟩]
      rcases h with rfl | ⟨rfl, -⟩ <;> (show Value.int (x_i _ a j) = _; rw [e]; rfl)
    | long z =>
      have e : x_j (x_wv M a j (.long z)) a j = z := by show (if a = a ∧ j = j then z else M.2.2.1 a j) = z; rw [if_pos ⟨rfl, rfl⟩]
      cases h
      show Value.long (x_j _ a j) = _; rw [e]; rfl
    | ref z =>
      have e : x_r (x_wv M a j (.ref z)) a j = z := by show (if a = a ∧ j = j then z else M.2.2.2 a j) = z; rw [if_pos ⟨rfl, rfl⟩]
      rcases h with ⟨n, rfl⟩ | ⟨t, rfl⟩ <;> (show x_v Γ (.ref (x_r _ a j)) = _; rw [e])
    | _ => exact h.elim
  · rw [if_neg hjk]
    have e1 : x_i (x_wv M a k w) a j = x_i M a j := by
      cases w with
      | int z => show (if a = a ∧ j = k then z else M.2.1 a j) = _; rw [if_neg (fun q => hjk q.2)]; rfl
      | _ => rfl
    have e2 : x_j (x_wv M a k w) a j = x_j M a j := by
      cases w with
      | long z => show (if a = a ∧ j = k then z else M.2.2.1 a j) = _; rw [if_neg (fun q => hjk q.2)]; rfl
      | _ => rfl
    have e3 : x_r (x_wv M a k w) a j = x_r M a j := by
      cases w with
      | ref z => show (if a = a ∧ j = k then z else M.2.2.2 a j) = _; rw [if_neg (fun q => hjk q.2)]; rfl
      | _ => rfl
    simp only [x_fv, e1, e2, e3]
theorem x_wv_fs {Γ : XG} (M : XM) (a ci k : Nat) (w : Value) (h : x_fits (x_ty ci k) w) : x_fs Γ (x_wv M a k w) a ci = (x_fs Γ M a ci).set k (x_v Γ w) := by
  apply List.ext_getElem?
  intro j
  by_cases hj : j < x_N ci
  · rw [x_fs_at hj, x_wv_fv M a k j w (x_ty ci k) (x_ty ci j) h (fun q => by rw [q])]
    by_cases hjk : j = k
    · subst hjk
      rw [if_pos rfl, List.getElem?_set_self (by simp [x_fs]; exact hj)]
    · rw [if_neg hjk, List.getElem?_set_ne (Ne.symm hjk), x_fs_at hj]
  · rw [List.getElem?_eq_none (by simp [x_fs]; omega), List.getElem?_eq_none (by simp [x_fs]; omega)]
theorem x_putf (pc idx ci kf : Nat) {a : Nat} {w : Value} (hd : decode μ.2.1 pc = .ok (.putfield idx, 3)) (hl : Cond.fieldLink μ.1.cls idx (x_R ci) (x_T ci kf).2.1 (x_T ci kf).2.2.1 ∈ x_TB) (hci : ci < 10) (hk : kf < x_N ci) (hown : (x_T ci kf).1 = x_R ci) (hw : x_fits (x_ty ci kf) w) (hfin : (x_T ci kf).2.2.2 = false ∨ (μ.1.name = "<init>" ∧ μ.1.cls = x_R ci)) (ht : x_tag M a = ci + 10)
    (k : AW l μ d mc ms Φ u v (pc + 3) L S (x_wv M a kf w)) : AW l μ d mc ms Φ u v pc L (w :: .ref a :: S) M := by
  intro p e Rm s m args below meth c H locs ls Γ Qf C hH hS hL F
  have ho := x_ownC hH ht
  rw [List.map_cons, List.map_cons, x_v_own ho.1]
  have he := x_ws_at (Γ := Γ) ho.1 ho.2
  rw [x_cell_obj hci ht] at he
  obtain ⟨hx, hb, -, -, hown0, hts, -, hini, -, -, -, -, hU⟩ := id C
  have hK := hU.1
  have hap := va_apart (own := μ.1.cls) hts (x_uwt ci hci) (x_ty ci) (x_tyok ci hci) (x_nm ci hci) hK (x_cl ci hci)
  obtain ⟨r, h1, cell, q1, q2, q3, q4⟩ := hH.2.2.1 (a - 20) _ he
  have hr : r = (x_R ci, x_T ci, x_N ci) := Option.some.inj (h1.symm.trans (x_cl ci hci))
  subst hr
  obtain ⟨hSl, hfc, kC, hkC, hkind⟩ := hK.1 ci _ (x_cl ci hci)
  obtain ⟨cf, kf', fi, f, hi, hsl⟩ := hSl kf hk
  have hd1 := x_tyok ci hci kf hk
  obtain ⟨hn, hfit⟩ := x_fits_ok (Γ := Γ) hw
  have hst := (u_facts hfc hkC (u_lays hts (x_uwt ci hci) hk) hi).1
  have key : ∀ H' : Heap, H'[g_b Γ + (a - 20)]? = some (cell.setSlot f.slot (x_v Γ w)) → H'.size = H.size → (∀ q, q ≠ g_b Γ + (a - 20) → H'[q]? = H[q]?) → W p l e Rm s m args below meth c H' (locs ++ [⟨g_b Γ + (a - 20), f.slot⟩]) u v Qf (F0 m (pc + 3) ls (S.map (x_v Γ))) := by
    intro H' e1 e2 e3
    refine k p e Rm s m args below meth c H' _ ls Γ Qf C (x_H_put hH ho (x_wv_1 M a kf w) (x_wv_ro M a kf w ho.1) (x_wv_oth M a kf w) e2 e3 ?_) (hS.put e2 e3 x_adA) hL F
    rw [x_cell_obj hci (show x_tag (x_wv M a kf w) a = ci + 10 by unfold x_tag; rw [x_wv_1]; exact ht), x_wv_fs M a ci kf w hw]
    rw [hsl] at e1
    exact ⟨_, x_cl ci hci, t_OB.to (V := updV (vp_V (x_fs Γ M a ci)) kf (x_v Γ w)) ⟨_, e1, q2, q3, t_set q4 hap hk _⟩ (fun j _ => vp_updV_set (by simp [x_fs]; exact hk) _ j)⟩
  rcases hfin with hfin | ⟨hinit, hcl⟩
  · have hlay := hts _ (x_uwt ci hci _ (u_in_lay hk))
    unfold u_lay at hlay
    rw [if_neg (by rw [hfin]; decide)] at hlay
    exact W.putK hx hb (f := f) ⟨hown0, hts _ hl, ⟨_, _, _, by rw [hown] at hi; exact hi⟩, hst⟩ (by rw [q2]; exact u_store hfc hkC hkind hlay hi hd1 hn hfit) q1 q3 (by rw [hsl]; exact k2_hasslot (q4 kf hk)) rfl rfl hd key
  · have hlay := hts _ (x_uwt ci hci _ (u_in_lay hk))
    unfold u_lay at hlay
    by_cases hf2 : (x_T ci kf).2.2.2 = true
    · rw [if_pos hf2] at hlay
      have hcf : m.cls = cf := by
        obtain ⟨_, _, c', _, _, _, -, -, hf', -, -, -, hown2, -⟩ := Cond.laysFinal_spec hlay
        have e1 : c' = cf := by have := hi.symm.trans hf'; simp at this; exact this.1.symm
        rw [hown, ← hcl] at hown2
        rw [← e1]; exact Option.some.inj (hown0.symm.trans hown2)
      exact W.putFinK hx hb hown0 (hts _ hl) (by rw [hown] at hi; exact hi) hst hcf (hini hinit) (by rw [q2]; exact u_fits hfc hkC hkind (Or.inr hlay) hi hd1 hn hfit) q1 q3 (by rw [hsl]; exact k2_hasslot (q4 kf hk)) rfl rfl hd key
    · rw [if_neg hf2] at hlay
      exact W.putK hx hb (f := f) ⟨hown0, hts _ hl, ⟨_, _, _, by rw [hown] at hi; exact hi⟩, hst⟩ (by rw [q2]; exact u_store hfc hkC hkind hlay hi hd1 hn hfit) q1 q3 (by rw [hsl]; exact k2_hasslot (q4 kf hk)) rfl rfl hd key
/-! arrays -/
theorem x_iald (pc : Nat) {a : Nat} {i : Int32} (hd : decode μ.2.1 pc = .ok (.iaload, 1)) (ht : x_at M a 1 i = true) (k : AW l μ d mc ms Φ u v (pc + 1) L (.int (x_i M a i.toNatClampNeg) :: S) M) : AW l μ d mc ms Φ u v pc L (.int i :: .ref a :: S) M := by
  intro p e Rm s m args below meth c H locs ls Γ Qf C hH hS hL F
  have ho := x_ownT hH (x_at_1 ht) (by decide) (by decide) (by decide) (by decide) (by decide)
  rw [List.map_cons, List.map_cons, x_v_own ho.1]
  have he := x_ws_at (Γ := Γ) ho.1 ho.2
  rw [x_cell_1 (x_at_1 ht)] at he
  exact va_iald (D := g_D Γ) (cl := vwCl) (tys := x_tys Γ) C.1 C.2.1 C.2.2.2.2.2.2.2.2.2.2.2.2.1 hH.2.2.1 (a - 20) 0 he rfl (x_at_2 ht) hd (k p e Rm s m args below meth c H locs ls Γ Qf C hH hS hL F)
theorem x_lald (pc : Nat) {a : Nat} {i : Int32} (hd : decode μ.2.1 pc = .ok (.laload, 1)) (ht : x_at M a 2 i = true) (k : AW l μ d mc ms Φ u v (pc + 1) L (.long (x_j M a i.toNatClampNeg) :: S) M) : AW l μ d mc ms Φ u v pc L (.int i :: .ref a :: S) M := by
  intro p e Rm s m args below meth c H locs ls Γ Qf C hH hS hL F
  have ho := x_ownT hH (x_at_1 ht) (by decide) (by decide) (by decide) (by decide) (by decide)
  rw [List.map_cons, List.map_cons, x_v_own ho.1]
  have he := x_ws_at (Γ := Γ) ho.1 ho.2
  rw [x_cell_2 (x_at_1 ht)] at he
  exact va_lald (D := g_D Γ) (cl := vwCl) (tys := x_tys Γ) C.1 C.2.1 C.2.2.2.2.2.2.2.2.2.2.2.2.1 hH.2.2.1 (a - 20) 1 he rfl (x_at_2 ht) hd (k p e Rm s m args below meth c H locs ls Γ Qf C hH hS hL F)
theorem x_aald3 (pc : Nat) {a : Nat} {i : Int32} (hd : decode μ.2.1 pc = .ok (.aaload, 1)) (ht : x_at M a 3 i = true) (k : AW l μ d mc ms Φ u v (pc + 1) L (.ref (x_r M a i.toNatClampNeg) :: S) M) : AW l μ d mc ms Φ u v pc L (.int i :: .ref a :: S) M := by
  intro p e Rm s m args below meth c H locs ls Γ Qf C hH hS hL F
  have ho := x_ownT hH (x_at_1 ht) (by decide) (by decide) (by decide) (by decide) (by decide)
  rw [List.map_cons, List.map_cons, x_v_own ho.1]
  have he := x_ws_at (Γ := Γ) ho.1 ho.2
  rw [x_cell_3 (x_at_1 ht)] at he
  exact va_aldq (D := g_D Γ) (cl := vwCl) (tys := x_tys Γ) C.1 C.2.1 C.2.2.2.2.2.2.2.2.2.2.2.2.1 hH.2.2.1 (a - 20) 2 he rfl (x_at_2 ht) hd (k p e Rm s m args below meth c H locs ls Γ Qf C hH hS hL F)
theorem x_aald4 (pc : Nat) {a : Nat} {i : Int32} (hd : decode μ.2.1 pc = .ok (.aaload, 1)) (ht : x_at M a 4 i = true) (k : AW l μ d mc ms Φ u v (pc + 1) L (.ref (x_r M a i.toNatClampNeg) :: S) M) : AW l μ d mc ms Φ u v pc L (.int i :: .ref a :: S) M := by
  intro p e Rm s m args below meth c H locs ls Γ Qf C hH hS hL F
  have ho := x_ownT hH (x_at_1 ht) (by decide) (by decide) (by decide) (by decide) (by decide)
  rw [List.map_cons, List.map_cons, x_v_own ho.1]
  have he := x_ws_at (Γ := Γ) ho.1 ho.2
  rw [x_cell_4 (x_at_1 ht)] at he
  exact va_aldq (D := g_D Γ) (cl := vwCl) (tys := x_tys Γ) C.1 C.2.1 C.2.2.2.2.2.2.2.2.2.2.2.2.1 hH.2.2.1 (a - 20) 3 he rfl (x_at_2 ht) hd (k p e Rm s m args below meth c H locs ls Γ Qf C hH hS hL F)
theorem x_wi_wv (M : XM) (a k : Nat) (w : Int32) : x_wi M a k w = x_wv M a k (.int w) := rfl
theorem x_iast (pc : Nat) {a : Nat} {i w : Int32} (hd : decode μ.2.1 pc = .ok (.iastore, 1)) (ht : x_at M a 1 i = true) (k : AW l μ d mc ms Φ u v (pc + 1) L S (x_wi M a i.toNatClampNeg w)) : AW l μ d mc ms Φ u v pc L (.int w :: .int i :: .ref a :: S) M := by
  intro p e Rm s m args below meth c H locs ls Γ Qf C hH hS hL F
  have ho := x_ownT hH (x_at_1 ht) (by decide) (by decide) (by decide) (by decide) (by decide)
  rw [List.map_cons, List.map_cons, List.map_cons, x_v_own ho.1]
  have he := x_ws_at (Γ := Γ) ho.1 ho.2
  rw [x_cell_1 (x_at_1 ht)] at he
  have hc := hH.2.2.1 (a - 20) _ he
  refine W.iast C.1 C.2.1 hc ((C.2.2.2.2.2.2.2.2.2.2.2.2.1.2 0 _ rfl).1 _ (fun j => .int (x_i M a j))) (fun q => by cases q) (by show ¬ (i < 0 ∨ (arrV _ _ _).slots.size ≤ _); rw [arrV_size]; exact x_at_2 ht) rfl rfl hd fun H1 e1 z oq => ?_
  refine k p e Rm s m args below meth c H1 _ ls Γ Qf C (x_H_put hH ho (x_wv_1 M a _ (.int w)) (x_wv_ro M a _ (.int w) ho.1) (x_wv_oth M a _ (.int w)) z oq ?_) (hS.put z oq x_adA) hL F
  rw [x_cell_1 (show x_tag (x_wi M a i.toNatClampNeg w) a = 1 from x_at_1 ht)]
  show H1[_]? = some (vp_cell _ _)
  rw [e1]
  rw [vp_cell_i, vp_cell_i, arrV_store]
  congr 2
  funext q
  by_cases hq : q = i.toNatClampNeg
  · subst hq
    show updV _ _ _ _ = Value.int (if a = a ∧ i.toNatClampNeg = i.toNatClampNeg then w else M.2.1 a i.toNatClampNeg)
    simp [updV]
  · show updV _ _ _ _ = Value.int (if a = a ∧ q = i.toNatClampNeg then w else M.2.1 a q)
    simp [updV, hq, x_i]
theorem x_last (pc : Nat) {a : Nat} {i : Int32} {w : Int64} (hd : decode μ.2.1 pc = .ok (.lastore, 1)) (ht : x_at M a 2 i = true) (k : AW l μ d mc ms Φ u v (pc + 1) L S (x_wj M a i.toNatClampNeg w)) : AW l μ d mc ms Φ u v pc L (.long w :: .int i :: .ref a :: S) M := by
  intro p e Rm s m args below meth c H locs ls Γ Qf C hH hS hL F
  have ho := x_ownT hH (x_at_1 ht) (by decide) (by decide) (by decide) (by decide) (by decide)
  rw [List.map_cons, List.map_cons, List.map_cons, x_v_own ho.1]
  have he := x_ws_at (Γ := Γ) ho.1 ho.2
  rw [x_cell_2 (x_at_1 ht)] at he
  have hc := hH.2.2.1 (a - 20) _ he
  refine W.last C.1 C.2.1 hc ((C.2.2.2.2.2.2.2.2.2.2.2.2.1.2 1 _ rfl).1 _ (fun j => .long (x_j M a j))) (fun q => by cases q) (by show ¬ (i < 0 ∨ (arrV _ _ _).slots.size ≤ _); rw [arrV_size]; exact x_at_2 ht) rfl rfl hd fun H1 e1 z oq => ?_
  refine k p e Rm s m args below meth c H1 _ ls Γ Qf C (x_H_put hH ho (x_wv_1 M a _ (.long w)) (x_wv_ro M a _ (.long w) ho.1) (x_wv_oth M a _ (.long w)) z oq ?_) (hS.put z oq x_adA) hL F
  rw [x_cell_2 (show x_tag (x_wj M a i.toNatClampNeg w) a = 2 from x_at_1 ht)]
  show H1[_]? = some (vp_cell _ _)
  rw [e1]
  rw [vp_cell_l, vp_cell_l, arrV_store]
  congr 2
  funext q
  by_cases hq : q = i.toNatClampNeg
  · subst hq
    show updV _ _ _ _ = Value.long (if a = a ∧ i.toNatClampNeg = i.toNatClampNeg then w else M.2.2.1 a i.toNatClampNeg)
    simp [updV]
  · show updV _ _ _ _ = Value.long (if a = a ∧ q = i.toNatClampNeg then w else M.2.2.1 a q)
    simp [updV, hq, x_j]
end
