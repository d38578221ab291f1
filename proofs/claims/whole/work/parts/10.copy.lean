section
variable {l : Launch} {μ : XU} {d mc ms : Nat} {Φ : Option Value → XM → Prop} {u v : Nat} {L : List (Option Value)} {S : List Value} {M : XM}
theorem x_cpok_spec {M : XM} {a b : Nat} {sp dp n : Int32} (h : x_cpok M a b sp dp n = true) : x_tag M a = 2 ∧ x_tag M b = 2 ∧ ¬ sp < 0 ∧ ¬ dp < 0 ∧ ¬ n < 0 ∧ sp.toNatClampNeg + n.toNatClampNeg ≤ x_len M a ∧ dp.toNatClampNeg + n.toNatClampNeg ≤ x_len M b := by
  simp only [x_cpok, Bool.and_eq_true, decide_eq_true_eq, Bool.not_eq_true', decide_eq_false_iff_not] at h
  exact h
set_option maxHeartbeats 4000000 in
theorem x_acopy (pc idx : Nat) {a b : Nat} {sp dp n : Int32} (hd : decode μ.2.1 pc = .ok (.invokestatic idx, 3)) (hl : Cond.methodLink μ.1.cls idx arraycopyName ∈ x_TB) (hnat : Cond.native arraycopyName ∈ x_TB) (hst : Cond.static arraycopyName ∈ x_TB) (hi : Cond.initialized "java/lang/System" ∈ x_TB) (hLn : L.length = μ.2.2.1) (hS8 : (S.map fun w => w.category).sum ≤ 8) (hdd : 1 ≤ d) (hok : x_cpok M a b sp dp n = true)
    (k : AW l μ d mc ms Φ u v (pc + 3) L S (x_cpj M a sp.toNatClampNeg b dp.toNatClampNeg n.toNatClampNeg)) : AW l μ d mc ms Φ u v pc L (.int n :: .int dp :: .ref b :: .int sp :: .ref a :: S) M := by
  intro p e Rm s m args below meth c H locs ls Γ Qf C hH hS hL F
  obtain ⟨hx, hb, -, hml, hown0, hts, -, -, hfr, hlo, hmc, hms, hU⟩ := id C
  obtain ⟨ta, tb, h1, h2, h3, h4, h5⟩ := x_cpok_spec hok
  have hoa := x_ownT hH ta (by decide) (by decide) (by decide) (by decide) (by decide)
  have hob := x_ownT hH tb (by decide) (by decide) (by decide) (by decide) (by decide)
  rw [List.map_cons, List.map_cons, List.map_cons, List.map_cons, List.map_cons, x_v_own hoa.1, x_v_own hob.1]
  have hea := x_ws_at (Γ := Γ) hoa.1 hoa.2
  rw [x_cell_2 ta] at hea
  have heb := x_ws_at (Γ := Γ) hob.1 hob.2
  rw [x_cell_2 tb] at heb
  have hc0 : H[g_b Γ + (a - 20)]? = some (vp_cell (g_tc Γ 2) (x_len M a, .inr (.inl (x_j M a)))) := hH.2.2.1 (a - 20) _ hea
  have hc1 : H[g_b Γ + (b - 20)]? = some (vp_cell (g_tc Γ 2) (x_len M b, .inr (.inl (x_j M b)))) := hH.2.2.1 (b - 20) _ heb
  have nn : ∀ z : Int32, ¬ z < 0 → z.toInt = (z.toNatClampNeg : Int) := by
    intro z hz
    have hz0 : (0 : Int) ≤ z.toInt := by
      have := Int32.not_lt.mp hz
      simpa using Int32.le_iff_toInt_le.mp this
    show z.toInt = ((z.toInt.toNat : Nat) : Int)
    omega
  intro T hT X
  obtain ⟨-, k0, hk0, cm0, hkk0⟩ := (hU.1.2 1 _ rfl).1 (x_len M a) (fun j => .long (x_j M a j))
  obtain ⟨-, k1, hk1, cm1, hkk1⟩ := (hU.1.2 1 _ rfl).1 (x_len M b) (fun j => .long (x_j M b j))
  have h8 := x_catS Γ S hS8
  have hnf : nativeFrameWords "java/lang/System" "arraycopy" 5 ≤ 40 := by decide
  obtain ⟨vm', X', step⟩ := X.arraycopy hx hown0 (hts _ hl) (hts _ hnat) (hts _ hst) (hts _ hi) (src := g_b Γ + (a - 20)) (dst := g_b Γ + (b - 20)) (cs := vp_cell (g_tc Γ 2) (x_len M a, .inr (.inl (x_j M a)))) (cd := vp_cell (g_tc Γ 2) (x_len M b, .inr (.inl (x_j M b)))) (srcPos := sp) (destPos := dp) (n := n) (by rw [hT]; exact hc0) (by rw [hT]; exact hc1)
    (fun _ h => by cases h) (fun _ h => by cases h) (fun h => by cases h) (fun h => by cases h) hk0 hk1 hkk0 hkk1 (by simp [refKind]) h1 h2 h3
    (by rw [nn sp h1, nn n h3]; show ¬ _ > ((arrV (g_tc Γ 2) (x_len M a) (fun j => .long (x_j M a j))).slots.size : Int); rw [arrV_size]; omega)
    (by rw [nn dp h2, nn n h3]; show ¬ _ > ((arrV (g_tc Γ 2) (x_len M b) (fun j => .long (x_j M b j))).slots.size : Int); rw [arrV_size]; omega)
    (fun vm₁ _ i hi => by
      have e : (vp_cell (g_tc Γ 2) (x_len M a, .inr (.inl (x_j M a)))).slots.getD (sp.toNatClampNeg + i) .null = .long (x_j M a (sp.toNatClampNeg + i)) := by
        show (arrV (g_tc Γ 2) (x_len M a) (fun j => .long (x_j M a j))).slots.getD _ _ = _
        rw [Array.getD_eq_getD_getElem?, arrV_read _ _ (by omega)]
        rfl
      refine ⟨?_, ?_⟩
      · rw [e]
        rfl
      · rw [e]
        exact trivial)
    (g := F0 m pc ls (.int n :: .int dp :: .ref (g_b Γ + (b - 20)) :: .int sp :: .ref (g_b Γ + (a - 20)) :: S.map (x_v Γ))) rfl (by show ls.size = _; rw [hL.1, hml]; exact hLn) (rest := S.map (x_v Γ)) rfl (by rw [hb]; exact hd) (by omega) (by show 2 * 0 + _ + (nativeFrameWords "java/lang/System" "arraycopy" 5 + 11) ≤ _; omega)
  have e1 : copied (vp_cell (g_tc Γ 2) (x_len M a, .inr (.inl (x_j M a)))) (vp_cell (g_tc Γ 2) (x_len M b, .inr (.inl (x_j M b)))) sp dp n = vp_cell (g_tc Γ 2) (x_len M b, .inr (.inl (va_cpy (x_j M a) (x_j M b) sp.toNatClampNeg dp.toNatClampNeg n.toNatClampNeg))) := va_copied (fun z => .long z) (g_tc Γ 2) (g_tc Γ 2) (x_j M a) (x_j M b) h4
  rw [e1] at X' step
  generalize hcell : vp_cell (g_tc Γ 2) (x_len M b, .inr (.inl (va_cpy (x_j M a) (x_j M b) sp.toNatClampNeg dp.toNatClampNeg n.toNatClampNeg))) = cl at X' step
  have hl : g_b Γ + (b - 20) < H.size := (Array.getElem?_eq_some_iff.mp hc1).1
  have hheap : ((T.setVm vm').setCell (g_b Γ + (b - 20)) cl).heap = H.setIfInBounds (g_b Γ + (b - 20)) cl := by rw [← hT]; rfl
  have oq : ∀ q : Nat, q ≠ g_b Γ + (b - 20) → (H.setIfInBounds (g_b Γ + (b - 20)) cl)[q]? = H[q]? := fun q hq => by simp [Array.getElem?_setIfInBounds, Ne.symm hq]
  have hoth : ∀ q, q ≠ b → x_cell Γ (x_cpj M a sp.toNatClampNeg b dp.toNatClampNeg n.toNatClampNeg) q = x_cell Γ M q := fun q hq => x_cell_eq rfl rfl (by funext j; show (if q = b then _ else M.2.2.1 q j) = _; rw [if_neg hq]; rfl) rfl
  have hH' : x_H Γ (x_cpj M a sp.toNatClampNeg b dp.toNatClampNeg n.toNatClampNeg) (H.setIfInBounds (g_b Γ + (b - 20)) cl) := by
    refine x_H_put hH hob rfl (fun _ _ _ => rfl) hoth (by simp) oq ?_
    rw [x_cell_2 (show x_tag (x_cpj M a sp.toNatClampNeg b dp.toNatClampNeg n.toNatClampNeg) b = 2 from tb)]
    show (H.setIfInBounds (g_b Γ + (b - 20)) cl)[g_b Γ + (b - 20)]? = some (vp_cell _ _)
    rw [show (H.setIfInBounds (g_b Γ + (b - 20)) cl)[g_b Γ + (b - 20)]? = some cl by simp [Array.getElem?_setIfInBounds, hl], ← hcell, vp_cell_l, vp_cell_l]
    congr 2
    funext j
    show _ = Value.long (if b = b then va_cpy (M.2.2.1 a) (M.2.2.1 b) _ _ _ j else _)
    rw [if_pos rfl]
    rfl
  obtain ⟨t, a1, b1⟩ := k p e Rm s m args below meth c (H.setIfInBounds (g_b Γ + (b - 20)) cl) _ ls Γ Qf C hH' ⟨by simp; exact hS.1, fun q g1 g2 => by
      rw [oq q (fun e => g2 (by rw [e]; exact x_adA))]
      exact hS.2.1 q g1 g2, fun q hq => by
      rcases List.mem_append.mp hq with h | h
      · exact hS.2.2 q h
      · obtain ⟨z, -, hz⟩ := List.mem_map.mp h
        rw [← hz]
        exact x_adA⟩ hL F _ hheap X'
  exact ⟨t, step t a1, b1⟩
end
