/-! THE ABSTRACT MEMORY: cells by number (0 is null; 1 the script; 2, 3, 4 the static arrays; 5 to 11 the String constants; 12 to 18 their bytes; 19 a static that nobody reads; from 20 on what was made), each with a tag and a size; ints, longs and references by cell and place. -/
abbrev XM : Type := List (Nat × Nat) × (Nat → Nat → Int32) × (Nat → Nat → Int64) × (Nat → Nat → Nat)
def x_n (M : XM) : Nat := M.1.length
def x_tag (M : XM) (a : Nat) : Nat := (M.1.getD a (0, 0)).1
def x_len (M : XM) (a : Nat) : Nat := (M.1.getD a (0, 0)).2
def x_i (M : XM) (a k : Nat) : Int32 := M.2.1 a k
def x_j (M : XM) (a k : Nat) : Int64 := M.2.2.1 a k
def x_r (M : XM) (a k : Nat) : Nat := M.2.2.2 a k
def x_wi (M : XM) (a k : Nat) (v : Int32) : XM := (M.1, fun b j => if b = a ∧ j = k then v else M.2.1 b j, M.2.2)
def x_wj (M : XM) (a k : Nat) (v : Int64) : XM := (M.1, M.2.1, fun b j => if b = a ∧ j = k then v else M.2.2.1 b j, M.2.2.2)
def x_wr (M : XM) (a k : Nat) (v : Nat) : XM := (M.1, M.2.1, M.2.2.1, fun b j => if b = a ∧ j = k then v else M.2.2.2 b j)
def x_new (M : XM) (t n : Nat) : XM := (M.1 ++ [(t, n)], fun b j => if b = M.1.length then 0 else M.2.1 b j, fun b j => if b = M.1.length then 0 else M.2.2.1 b j, fun b j => if b = M.1.length then 0 else M.2.2.2 b j)
def x_cpj (M : XM) (a sp b dp n : Nat) : XM := (M.1, M.2.1, fun c j => if c = b then va_cpy (M.2.2.1 a) (M.2.2.1 b) sp dp n j else M.2.2.1 c j, M.2.2.2)
/-- what a call may fail at, as a number's truth -/
def x_in (i : Int32) (n : Nat) : Bool := !(decide (i < 0)) && decide (i.toNatClampNeg < n)
theorem x_in_vp {i : Int32} {n : Nat} (h : x_in i n = true) : vp_in i n := by
  simp only [x_in, Bool.and_eq_true, Bool.not_eq_true', decide_eq_false_iff_not, decide_eq_true_eq] at h
  intro q
  rcases q with q | q
  · exact h.1 q
  · omega
def x_at (M : XM) (a t : Nat) (i : Int32) : Bool := decide (x_tag M a = t) && x_in i (x_len M a)
theorem x_at_1 {M : XM} {a t : Nat} {i : Int32} (h : x_at M a t i = true) : x_tag M a = t := by
  simp only [x_at, Bool.and_eq_true, decide_eq_true_eq] at h
  exact h.1
theorem x_at_2 {M : XM} {a t : Nat} {i : Int32} (h : x_at M a t i = true) : vp_in i (x_len M a) := by
  simp only [x_at, Bool.and_eq_true, decide_eq_true_eq] at h
  exact x_in_vp h.2
def x_cpok (M : XM) (a b : Nat) (sp dp n : Int32) : Bool := decide (x_tag M a = 2) && (decide (x_tag M b = 2) && (!(decide (sp < 0)) && (!(decide (dp < 0)) && (!(decide (n < 0)) && (decide (sp.toNatClampNeg + n.toNatClampNeg ≤ x_len M a) && decide (dp.toNatClampNeg + n.toNatClampNeg ≤ x_len M b))))))
theorem x_ck {α : Type} {b : Bool} {T : Option α} {r : α} (h : (if b = true then T else none) = some r) : b = true ∧ T = some r := by
  cases b with
  | true => exact ⟨rfl, h⟩
  | false => cases h
def x_bd {α β : Type} (o : Option (α × XM)) (k : α → XM → Option β) : Option β := match o with
  | some q => k q.1 q.2
  | none => none
def x_bv {β : Type} (o : Option XM) (k : XM → Option β) : Option β := match o with
  | some q => k q
  | none => none
theorem x_bd_of {α β : Type} {o : Option (α × XM)} {k : α → XM → Option β} {b : β} (h : x_bd o k = some b) : ∃ (r : α) (M : XM), o = some (r, M) ∧ k r M = some b := by
  cases o with
  | none => cases h
  | some q => exact ⟨q.1, q.2, rfl, h⟩
theorem x_bv_of {β : Type} {o : Option XM} {k : XM → Option β} {b : β} (h : x_bv o k = some b) : ∃ (M : XM), o = some M ∧ k M = some b := by
  cases o with
  | none => cases h
  | some q => exact ⟨q, rfl, h⟩
theorem x_bd_s {α β : Type} (r : α) (M : XM) (k : α → XM → Option β) : x_bd (some (r, M)) k = k r M := rfl
theorem x_bv_s {β : Type} (M : XM) (k : XM → Option β) : x_bv (some M) k = k M := rfl
/-- how a method's answer is told -/
def x_Ri (q : Int32 × XM) : Option Value → XM → Prop := fun r M => r = some (.int q.1) ∧ M = q.2
def x_Rl (q : Int64 × XM) : Option Value → XM → Prop := fun r M => r = some (.long q.1) ∧ M = q.2
def x_Ra (q : Nat × XM) : Option Value → XM → Prop := fun r M => r = some (.ref q.1) ∧ M = q.2
def x_Rv (q : XM) : Option Value → XM → Prop := fun r M => r = none ∧ M = q
/-! where the cells are: addresses of the cells that nobody writes, the script, the heap's size at the start, the script's length, the classes, the array classes -/
abbrev XG : Type := (Nat → Option Nat) × (Nat → Int32) × Nat × Nat × va_G × (Nat → ClassId)
def g_ro (Γ : XG) : Nat → Option Nat := Γ.1
def g_xs (Γ : XG) : Nat → Int32 := Γ.2.1
def g_b (Γ : XG) : Nat := Γ.2.2.1
def g_L (Γ : XG) : Nat := Γ.2.2.2.1
def g_D (Γ : XG) : va_G := Γ.2.2.2.2.1
def g_tc (Γ : XG) : Nat → ClassId := Γ.2.2.2.2.2
def x_ad (Γ : XG) (i : Nat) : Option Nat := if i < 20 then g_ro Γ i else some (g_b Γ + (i - 20))
def x_v (Γ : XG) (w : Value) : Value := match w with
  | .ref i => va_rf (x_ad Γ i)
  | z => z
def x_A (Γ : XG) : Nat → Prop := fun q => g_b Γ ≤ q
def x_str (i : Nat) : String := match i with
  | 0 => "to"
  | 1 => "apart"
  | 2 => "odds"
  | 3 => "cost"
  | 4 => "tally"
  | 5 => "counter"
  | _ => "ask"
def x_byt : List (List Int32) := [[116, 111], [97, 112, 97, 114, 116], [111, 100, 100, 115], [99, 111, 115, 116], [116, 97, 108, 108, 121], [99, 111, 117, 110, 116, 101, 114], [97, 115, 107]]
def x_sh0 (L : Nat) : List (Nat × Nat) := [(0, 0), (5, L), (5, 7), (5, 4), (5, 4), (7, 0), (7, 0), (7, 0), (7, 0), (7, 0), (7, 0), (7, 0), (6, 2), (6, 5), (6, 4), (6, 4), (6, 5), (6, 7), (6, 3), (8, 0)]
def x_roI (xs : Nat → Int32) (a j : Nat) : Int32 := match a with
  | 0 => 0
  | 1 => xs j
  | 2 => ([-1, 0, 0, 2, 0, 1, 4] : List Int32).getD j 0
  | 3 => ([1, 1, 0, 0] : List Int32).getD j 0
  | 4 => ([200, 200, 1000, 99] : List Int32).getD j 0
  | n + 5 => if n < 7 then 0 else (x_byt.getD (n - 7) []).getD j 0
def x_ty (ci : Nat) : Nat → FieldType := match ci with
  | 0 => tyX0
  | 1 => tyX1
  | 2 => tyX2
  | 3 => tyX3
  | 4 => tyX4
  | 5 => tyX5
  | 6 => tyX6
  | 7 => tyX7
  | 8 => tyX8
  | _ => tyX9
def x_N (ci : Nat) : Nat := match ci with
  | 0 => 5
  | 1 => 9
  | 2 => 5
  | 3 => 2
  | 4 => 10
  | 5 => 5
  | 6 => 4
  | 7 => 7
  | 8 => 14
  | _ => 42
def x_T (ci : Nat) : u_T := match ci with
  | 0 => TX0
  | 1 => TX1
  | 2 => TX2
  | 3 => TX3
  | 4 => TX4
  | 5 => TX5
  | 6 => TX6
  | 7 => TX7
  | 8 => TX8
  | _ => TX9
def x_R (ci : Nat) : String := match ci with
  | 0 => RX0
  | 1 => RX1
  | 2 => RX2
  | 3 => RX3
  | 4 => RX4
  | 5 => RX5
  | 6 => RX6
  | 7 => RX7
  | 8 => RX8
  | _ => RX9
theorem x_cl (ci : Nat) (h : ci < 10) : vwCl[ci]? = some (x_R ci, x_T ci, x_N ci) := by
  match ci, h with
  | 0, _ => rfl
  | 1, _ => rfl
  | 2, _ => rfl
  | 3, _ => rfl
  | 4, _ => rfl
  | 5, _ => rfl
  | 6, _ => rfl
  | 7, _ => rfl
  | 8, _ => rfl
  | 9, _ => rfl
theorem x_tyok (ci : Nat) (h : ci < 10) : ∀ k, k < x_N ci → parseFieldDescriptor (x_T ci k).2.2.1 = some (x_ty ci k) := by
  match ci, h with
  | 0, _ => exact tyX0_ok
  | 1, _ => exact tyX1_ok
  | 2, _ => exact tyX2_ok
  | 3, _ => exact tyX3_ok
  | 4, _ => exact tyX4_ok
  | 5, _ => exact tyX5_ok
  | 6, _ => exact tyX6_ok
  | 7, _ => exact tyX7_ok
  | 8, _ => exact tyX8_ok
  | 9, _ => exact tyX9_ok
theorem x_nm (ci : Nat) (h : ci < 10) : ∀ a, a < x_N ci → ∀ b, b < x_N ci → a ≠ b → (x_T ci a).2.1 ≠ (x_T ci b).2.1 := by
  match ci, h with
  | 0, _ => exact nmX0
  | 1, _ => exact nmX1
  | 2, _ => exact nmX2
  | 3, _ => exact nmX3
  | 4, _ => exact nmX4
  | 5, _ => exact nmX5
  | 6, _ => exact nmX6
  | 7, _ => exact nmX7
  | 8, _ => exact nmX8
  | 9, _ => exact nmX9
set_option maxRecDepth 100000 in
theorem x_uws (ci : Nat) (h : ci < 10) : ∀ w ∈ u_ws (x_R ci) (x_T ci) (x_N ci), w ∈ lw_tbl := by
  match ci, h with
  | 0, _ => decide +kernel
  | 1, _ => decide +kernel
  | 2, _ => decide +kernel
  | 3, _ => decide +kernel
  | 4, _ => decide +kernel
  | 5, _ => decide +kernel
  | 6, _ => decide +kernel
  | 7, _ => decide +kernel
  | 8, _ => decide +kernel
  | 9, _ => decide +kernel
/-- an object's field, a cell, the world -/
def x_fv (Γ : XG) (M : XM) (i : Nat) (ty : FieldType) (k : Nat) : Value := match ty with
  | .object _ => x_v Γ (.ref (x_r M i k))
  | .array _ => x_v Γ (.ref (x_r M i k))
  | .long => .long (x_j M i k)
  | _ => .int (x_i M i k)
def x_fs (Γ : XG) (M : XM) (i ci : Nat) : List Value := (List.range (x_N ci)).map (fun k => x_fv Γ M i (x_ty ci k) k)
def x_cell (Γ : XG) (M : XM) (i : Nat) : va_E := match x_tag M i with
  | 1 => .inl (g_tc Γ 1, x_len M i, .inl (x_i M i))
  | 2 => .inl (g_tc Γ 2, x_len M i, .inr (.inl (x_j M i)))
  | 3 => .inl (g_tc Γ 3, x_len M i, .inr (.inr (.inr (.inr (fun k => x_ad Γ (x_r M i k))))))
  | 4 => .inl (g_tc Γ 4, x_len M i, .inr (.inr (.inr (.inr (fun k => x_ad Γ (x_r M i k))))))
  | t => .inr (t - 10, x_fs Γ M i (t - 10))
def x_ws (Γ : XG) (M : XM) : va_W := (List.range (x_n M - 20)).map (fun k => (g_b Γ + k, x_cell Γ M (20 + k)))
def x_tys (Γ : XG) : List (ClassId × FieldType) := [(g_tc Γ 1, .int), (g_tc Γ 2, .long), (g_tc Γ 3, .object RX2), (g_tc Γ 4, .object RX6)]
def x_H (Γ : XG) (M : XM) (H : Heap) : Prop := 20 ≤ x_n M ∧ H.size = g_b Γ + (x_n M - 20) ∧ va_P (g_D Γ) vwCl (x_ws Γ M) H ∧ (∀ a, a < 20 → ∀ j, x_i M a j = x_roI (g_xs Γ) a j) ∧ M.1.take 20 = x_sh0 (g_L Γ)
theorem x_ws_at {Γ : XG} {M : XM} {i : Nat} (h1 : 20 ≤ i) (h2 : i < x_n M) : (x_ws Γ M)[i - 20]? = some (g_b Γ + (i - 20), x_cell Γ M i) := by
  unfold x_ws
  rw [List.getElem?_map, List.getElem?_range (by omega)]
  simp only [Option.map_some]
  rw [show 20 + (i - 20) = i by omega]
theorem x_ws_D (Γ : XG) (M : XM) : va_D (x_A Γ) (x_ws Γ M) := by
  have key : ∀ (k : Nat) (q : Nat × va_E), (x_ws Γ M)[k]? = some q → q.1 = g_b Γ + k := by
    intro k q hk
    unfold x_ws at hk
    rw [List.getElem?_map] at hk
    have hl : k < x_n M - 20 := by
      have := (List.getElem?_eq_some_iff.mp (show ((List.range (x_n M - 20)).map (fun k => (g_b Γ + k, x_cell Γ M (20 + k))))[k]? = some q by rw [List.getElem?_map]; exact hk)).1
      simpa using this
    rw [List.getElem?_range hl] at hk
    cases hk
    rfl
  refine ⟨fun i j p q hi hj hpq => ?_, fun k q hk => ?_⟩
  · rw [key i p hi, key j q hj] at hpq
    omega
  · show g_b Γ ≤ q.1
    rw [key k q hk]
    omega
theorem x_ws_set {Γ : XG} {M M' : XM} {i : Nat} {e : va_E} (h1 : 20 ≤ i) (h2 : i < x_n M) (hn : x_n M' = x_n M) (he : x_cell Γ M' i = e) (ho : ∀ b, b ≠ i → x_cell Γ M' b = x_cell Γ M b) : (x_ws Γ M).set (i - 20) (g_b Γ + (i - 20), e) = x_ws Γ M' := by
  apply List.ext_getElem?
  intro k
  by_cases hk : k < x_n M - 20
  · by_cases hki : i - 20 = k
    · subst hki
      rw [List.getElem?_set_self (by simp [x_ws]; omega), x_ws_at h1 (by rw [hn]; exact h2), he]
    · rw [List.getElem?_set_ne hki]
      have e1 := x_ws_at (Γ := Γ) (M := M) (i := k + 20) (by omega) (by omega)
      have e2 := x_ws_at (Γ := Γ) (M := M') (i := k + 20) (by omega) (by omega)
      rw [Nat.add_sub_cancel] at e1 e2
      rw [e1, e2, ho (k + 20) (by omega)]
  · rw [List.getElem?_eq_none (by simp [x_ws]; omega), List.getElem?_eq_none (by simp [x_ws]; omega)]
/-- a cell that was made is at its place -/
theorem x_own {Γ : XG} {M : XM} {H : Heap} (hH : x_H Γ M H) {a : Nat} (ht : x_tag M a ≠ 0) (h5 : x_tag M a ≠ 5) (h6 : x_tag M a ≠ 6) (h7 : x_tag M a ≠ 7) (h8 : x_tag M a ≠ 8) : 20 ≤ a ∧ a < x_n M := by
  obtain ⟨hn, -, -, -, hr⟩ := hH
  refine ⟨?_, ?_⟩
  · rcases Nat.lt_or_ge a 20 with h | h
    · exfalso
      have e : M.1.getD a (0, 0) = (x_sh0 (g_L Γ)).getD a (0, 0) := by
        rw [← hr, List.getD_eq_getElem?_getD, List.getD_eq_getElem?_getD, List.getElem?_take_of_lt h]
      unfold x_tag at ht h5 h6 h7 h8
      rw [e] at ht h5 h6 h7 h8
      match a, h with
      | 0, _ => exact ht rfl
      | 1, _ => exact h5 rfl
      | 2, _ => exact h5 rfl
      | 3, _ => exact h5 rfl
      | 4, _ => exact h5 rfl
      | 5, _ => exact h7 rfl
      | 6, _ => exact h7 rfl
      | 7, _ => exact h7 rfl
      | 8, _ => exact h7 rfl
      | 9, _ => exact h7 rfl
      | 10, _ => exact h7 rfl
      | 11, _ => exact h7 rfl
      | 12, _ => exact h6 rfl
      | 13, _ => exact h6 rfl
      | 14, _ => exact h6 rfl
      | 15, _ => exact h6 rfl
      | 16, _ => exact h6 rfl
      | 17, _ => exact h6 rfl
      | 18, _ => exact h6 rfl
      | 19, _ => exact h8 rfl
    · exact h
  · rcases Nat.lt_or_ge a (x_n M) with h | h
    · exact h
    · exfalso
      apply ht
      unfold x_tag
      rw [List.getD_eq_getElem?_getD, List.getElem?_eq_none h]
      rfl
theorem x_ro_tag {Γ : XG} {M : XM} {H : Heap} (hH : x_H Γ M H) {a : Nat} (h : a < 20) : M.1.getD a (0, 0) = (x_sh0 (g_L Γ)).getD a (0, 0) := by
  obtain ⟨-, -, -, -, hr⟩ := hH
  rw [← hr, List.getD_eq_getElem?_getD, List.getD_eq_getElem?_getD, List.getElem?_take_of_lt h]
theorem x_ad_own {Γ : XG} {a : Nat} (h : 20 ≤ a) : x_ad Γ a = some (g_b Γ + (a - 20)) := by
  unfold x_ad
  rw [if_neg (by omega)]
theorem x_v_own {Γ : XG} {a : Nat} (h : 20 ≤ a) : x_v Γ (.ref a) = .ref (g_b Γ + (a - 20)) := by
  show va_rf (x_ad Γ a) = _
  rw [x_ad_own h]
  rfl
