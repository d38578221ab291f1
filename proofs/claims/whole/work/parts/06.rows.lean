section
variable {l : Launch} {μ : XU} {d mc ms : Nat} {Φ : Option Value → XM → Prop} {u v : Nat} {L : List (Option Value)} {S : List Value} {M : XM}
theorem x_iconst (pc : Nat) {n : Int} (w : Int32) (hd : decode μ.2.1 pc = .ok (.iconst n, 1)) (hv : Int32.ofInt n = w) (k : AW l μ d mc ms Φ u v (pc + 1) L (.int w :: S) M) : AW l μ d mc ms Φ u v pc L (S) M := by
  intro p e Rm s m args below meth c H locs ls Γ Qf C hH hS hL F
  exact lv_iconst C.1 C.2.1 hd hv (k p e Rm s m args below meth c H locs ls Γ Qf C hH hS hL F)
theorem x_bipush (pc : Nat) {n : Int} (w : Int32) (hd : decode μ.2.1 pc = .ok (.bipush n, 2)) (hv : (Int8.ofInt n).toInt32 = w) (k : AW l μ d mc ms Φ u v (pc + 2) L (.int w :: S) M) : AW l μ d mc ms Φ u v pc L (S) M := by
  intro p e Rm s m args below meth c H locs ls Γ Qf C hH hS hL F
  exact lv_bipush C.1 C.2.1 hd hv (k p e Rm s m args below meth c H locs ls Γ Qf C hH hS hL F)
theorem x_sipush (pc : Nat) {n : Int} (w : Int32) (hd : decode μ.2.1 pc = .ok (.sipush n, 3)) (hv : (Int16.ofInt n).toInt32 = w) (k : AW l μ d mc ms Φ u v (pc + 3) L (.int w :: S) M) : AW l μ d mc ms Φ u v pc L (S) M := by
  intro p e Rm s m args below meth c H locs ls Γ Qf C hH hS hL F
  exact lv_sipush C.1 C.2.1 hd hv (k p e Rm s m args below meth c H locs ls Γ Qf C hH hS hL F)
theorem x_lconst (pc : Nat) {n : Fin 2} (w : Int64) (hd : decode μ.2.1 pc = .ok (.lconst n, 1)) (hv : Int64.ofNat (n : Nat) = w) (k : AW l μ d mc ms Φ u v (pc + 1) L (.long w :: S) M) : AW l μ d mc ms Φ u v pc L (S) M := by
  intro p e Rm s m args below meth c H locs ls Γ Qf C hH hS hL F
  exact lv_lconst C.1 C.2.1 hd hv (k p e Rm s m args below meth c H locs ls Γ Qf C hH hS hL F)
theorem x_ldc (pc : Nat) {n : Nat} (w : Int32) (hd : decode μ.2.1 pc = .ok (.ldc n, 2)) (hc : Cond.constant μ.1.cls n w ∈ x_TB) (k : AW l μ d mc ms Φ u v (pc + 2) L (.int w :: S) M) : AW l μ d mc ms Φ u v pc L (S) M := by
  intro p e Rm s m args below meth c H locs ls Γ Qf C hH hS hL F
  exact lv_ldc C.1 C.2.1 C.2.2.2.2.1 (C.2.2.2.2.2.1 _ hc) hd (k p e Rm s m args below meth c H locs ls Γ Qf C hH hS hL F)
theorem x_ldcw (pc : Nat) {n : Nat} (w : Int32) (hd : decode μ.2.1 pc = .ok (.ldc_w n, 3)) (hc : Cond.constant μ.1.cls n w ∈ x_TB) (k : AW l μ d mc ms Φ u v (pc + 3) L (.int w :: S) M) : AW l μ d mc ms Φ u v pc L (S) M := by
  intro p e Rm s m args below meth c H locs ls Γ Qf C hH hS hL F
  exact lv_ldcw C.1 C.2.1 C.2.2.2.2.1 (C.2.2.2.2.2.1 _ hc) hd (k p e Rm s m args below meth c H locs ls Γ Qf C hH hS hL F)
theorem x_ldc2 (pc : Nat) {n : Nat} (w : Int64) (hd : decode μ.2.1 pc = .ok (.ldc2_w n, 3)) (hc : Cond.constantLong μ.1.cls n w ∈ x_TB) (k : AW l μ d mc ms Φ u v (pc + 3) L (.long w :: S) M) : AW l μ d mc ms Φ u v pc L (S) M := by
  intro p e Rm s m args below meth c H locs ls Γ Qf C hH hS hL F
  exact lv_ldc2 C.1 C.2.1 C.2.2.2.2.1 (C.2.2.2.2.2.1 _ hc) hd (k p e Rm s m args below meth c H locs ls Γ Qf C hH hS hL F)
theorem x_iload_n (pc : Nat) {j : Fin 4} (i : Nat) {w : Int32} (hd : decode μ.2.1 pc = .ok (.iload_n j, 1)) (hi : (j : Nat) = i) (hg : L[i]? = some (some (.int w))) (k : AW l μ d mc ms Φ u v (pc + 1) L (.int w :: S) M) : AW l μ d mc ms Φ u v pc L (S) M := by
  intro p e Rm s m args below meth c H locs ls Γ Qf C hH hS hL F
  exact lv_iload_n C.1 C.2.1 hd hi (hL.2.2 i _ hg) (k p e Rm s m args below meth c H locs ls Γ Qf C hH hS hL F)
theorem x_iload (pc : Nat) (i : Nat) {w : Int32} (hd : decode μ.2.1 pc = .ok (.iload i, 2)) (hg : L[i]? = some (some (.int w))) (k : AW l μ d mc ms Φ u v (pc + 2) L (.int w :: S) M) : AW l μ d mc ms Φ u v pc L (S) M := by
  intro p e Rm s m args below meth c H locs ls Γ Qf C hH hS hL F
  exact lv_iload C.1 C.2.1 hd (hL.2.2 i _ hg) (k p e Rm s m args below meth c H locs ls Γ Qf C hH hS hL F)
theorem x_lload_n (pc : Nat) {j : Fin 4} (i : Nat) {w : Int64} (hd : decode μ.2.1 pc = .ok (.lload_n j, 1)) (hi : (j : Nat) = i) (hg : L[i]? = some (some (.long w))) (k : AW l μ d mc ms Φ u v (pc + 1) L (.long w :: S) M) : AW l μ d mc ms Φ u v pc L (S) M := by
  intro p e Rm s m args below meth c H locs ls Γ Qf C hH hS hL F
  exact lv_lload_n C.1 C.2.1 hd hi (hL.2.2 i _ hg) (k p e Rm s m args below meth c H locs ls Γ Qf C hH hS hL F)
theorem x_lload (pc : Nat) (i : Nat) {w : Int64} (hd : decode μ.2.1 pc = .ok (.lload i, 2)) (hg : L[i]? = some (some (.long w))) (k : AW l μ d mc ms Φ u v (pc + 2) L (.long w :: S) M) : AW l μ d mc ms Φ u v pc L (S) M := by
  intro p e Rm s m args below meth c H locs ls Γ Qf C hH hS hL F
  exact lv_lload C.1 C.2.1 hd (hL.2.2 i _ hg) (k p e Rm s m args below meth c H locs ls Γ Qf C hH hS hL F)
theorem x_aload_n (pc : Nat) {j : Fin 4} (i : Nat) {w : Nat} (hd : decode μ.2.1 pc = .ok (.aload_n j, 1)) (hi : (j : Nat) = i) (hg : L[i]? = some (some (.ref w))) (k : AW l μ d mc ms Φ u v (pc + 1) L (.ref w :: S) M) : AW l μ d mc ms Φ u v pc L (S) M := by
  intro p e Rm s m args below meth c H locs ls Γ Qf C hH hS hL F
  have hk := k p e Rm s m args below meth c H locs ls Γ Qf C hH hS hL F
  have hg' := hL.2.2 i _ hg
  simp only [List.map_cons] at hk
  change W _ _ _ _ _ _ _ _ _ _ _ _ _ _ _ (F0 _ _ _ (va_rf (x_ad Γ w) :: _)) at hk
  change _ = some (Slot.val (va_rf (x_ad Γ w))) at hg'
  cases hz : x_ad Γ w with
  | none =>
    rw [hz] at hk hg'
    exact lv_aload_nN C.1 C.2.1 hd hi hg' hk
  | some b =>
    rw [hz] at hk hg'
    exact lv_aload_n C.1 C.2.1 hd hi hg' hk
theorem x_aload (pc : Nat) (i : Nat) {w : Nat} (hd : decode μ.2.1 pc = .ok (.aload i, 2)) (hg : L[i]? = some (some (.ref w))) (k : AW l μ d mc ms Φ u v (pc + 2) L (.ref w :: S) M) : AW l μ d mc ms Φ u v pc L (S) M := by
  intro p e Rm s m args below meth c H locs ls Γ Qf C hH hS hL F
  have hk := k p e Rm s m args below meth c H locs ls Γ Qf C hH hS hL F
  have hg' := hL.2.2 i _ hg
  simp only [List.map_cons] at hk
  change W _ _ _ _ _ _ _ _ _ _ _ _ _ _ _ (F0 _ _ _ (va_rf (x_ad Γ w) :: _)) at hk
  change _ = some (Slot.val (va_rf (x_ad Γ w))) at hg'
  cases hz : x_ad Γ w with
  | none =>
    rw [hz] at hk hg'
    exact lv_aloadN C.1 C.2.1 hd hg' hk
  | some b =>
    rw [hz] at hk hg'
    exact lv_aload C.1 C.2.1 hd hg' hk
/-- the locals as the kit has them -/
def x_prs (Γ : XG) (L : List (Option Value)) : List (Nat × Value) := (List.range L.length).filterMap (fun i => match L.getD i none with
  | some w => some (i, x_v Γ w)
  | none => none)
theorem x_prs_in {Γ : XG} {L : List (Option Value)} {q : Nat × Value} (h : q ∈ x_prs Γ L) : ∃ w, L[q.1]? = some (some w) ∧ q.2 = x_v Γ w := by
  obtain ⟨i, hi, e⟩ := List.mem_filterMap.mp h
  have hl : i < L.length := List.mem_range.mp hi
  rw [List.getD_eq_getElem?_getD, List.getElem?_eq_getElem hl] at e
  simp only [Option.getD_some] at e
  cases hw : L[i] with
  | none => rw [hw] at e; cases e
  | some w =>
    rw [hw] at e
    cases e
    exact ⟨w, by rw [List.getElem?_eq_getElem hl, hw], rfl⟩
theorem x_prs_of {Γ : XG} {L : List (Option Value)} {i : Nat} {w : Value} (h : L[i]? = some (some w)) : (i, x_v Γ w) ∈ x_prs Γ L := by
  have hl : i < L.length := (List.getElem?_eq_some_iff.mp h).1
  refine List.mem_filterMap.mpr ⟨i, List.mem_range.mpr hl, ?_⟩
  rw [List.getD_eq_getElem?_getD, h]
  rfl
theorem x_L_has {Γ : XG} {ls : Array Slot} {L : List (Option Value)} (h : x_L Γ ls L) : lv_has ls L.length (x_prs Γ L) :=
  ⟨h.1, h.2.1, fun q hq => by
    obtain ⟨w, h1, h2⟩ := x_prs_in hq
    rw [h2]
    exact h.2.2 q.1 w h1⟩
/-- no long that begins just below i -/
def x_nl (L : List (Option Value)) (i : Nat) : Bool := match i with
  | 0 => true
  | j + 1 => match L.getD j none with
    | some (.long _) => false
    | some (.double _) => false
    | _ => true
theorem x_L_store {Γ : XG} {ls : Array Slot} {L : List (Option Value)} {i : Nat} {w : Value} (hi : i < L.length) (hn : x_nl L i = true) (h : lv_has ls L.length ((i, x_v Γ w) :: (x_prs Γ L).filter (fun q => !(q.1 == i) && !(q.1 + 1 == i && q.2.category == 2)))) : x_L Γ ls (L.set i (some w)) := by
  refine ⟨by rw [h.1, List.length_set], h.2.1, fun j z hz => ?_⟩
  by_cases hji : i = j
  · subst hji
    rw [List.getElem?_set_self hi] at hz
    cases hz
    exact h.2.2 _ List.mem_cons_self
  · rw [List.getElem?_set_ne hji] at hz
    refine h.2.2 (j, x_v Γ z) (List.mem_cons_of_mem _ (List.mem_filter.mpr ⟨x_prs_of hz, ?_⟩))
    have h1 : (j == i) = false := by simp; omega
    rw [h1]
    simp only [Bool.not_false, Bool.true_and, Bool.not_eq_true', Bool.and_eq_false_iff]
    by_cases h2 : j + 1 = i
    · right
      subst h2
      rw [x_cat]
      simp only [x_nl] at hn
      rw [List.getD_eq_getElem?_getD, hz] at hn
      simp only [Option.getD_some] at hn
      cases z <;> first | rfl | cases hn
    · left
      simp [h2]
theorem x_istore_n (pc : Nat) {j : Fin 4} (i : Nat) {w : Int32} (L' : List (Option Value)) (hd : decode μ.2.1 pc = .ok (.istore_n j, 1)) (hi : (j : Nat) = i) (hl : L.set i (some (.int w)) = L') (hn : i < L.length) (hx : x_nl L i = true) (k : AW l μ d mc ms Φ u v (pc + 1) L' (S) M) : AW l μ d mc ms Φ u v pc L (.int w :: S) M := by
  intro p e Rm s m args below meth c H locs ls Γ Qf C hH hS hL F
  subst hl
  exact lv_istore_n (x := w) C.1 C.2.1 hd hi (x_L_has hL) (by rw [show L.length = L.length from rfl]; exact hn) rfl (fun ls' hl' => k p e Rm s m args below meth c H locs ls' Γ Qf C hH hS (x_L_store (w := .int w) hn hx hl') F)
theorem x_istore (pc : Nat) (i : Nat) {w : Int32} (L' : List (Option Value)) (hd : decode μ.2.1 pc = .ok (.istore i, 2)) (hl : L.set i (some (.int w)) = L') (hn : i < L.length) (hx : x_nl L i = true) (k : AW l μ d mc ms Φ u v (pc + 2) L' (S) M) : AW l μ d mc ms Φ u v pc L (.int w :: S) M := by
  intro p e Rm s m args below meth c H locs ls Γ Qf C hH hS hL F
  subst hl
  exact lv_istore (x := w) C.1 C.2.1 hd (x_L_has hL) (by rw [show L.length = L.length from rfl]; exact hn) rfl (fun ls' hl' => k p e Rm s m args below meth c H locs ls' Γ Qf C hH hS (x_L_store (w := .int w) hn hx hl') F)
theorem x_astore_n (pc : Nat) {j : Fin 4} (i : Nat) {w : Nat} (L' : List (Option Value)) (hd : decode μ.2.1 pc = .ok (.astore_n j, 1)) (hi : (j : Nat) = i) (hl : L.set i (some (.ref w)) = L') (hn : i < L.length) (hx : x_nl L i = true) (k : AW l μ d mc ms Φ u v (pc + 1) L' (S) M) : AW l μ d mc ms Φ u v pc L (.ref w :: S) M := by
  intro p e Rm s m args below meth c H locs ls Γ Qf C hH hS hL F
  subst hl
  change W _ _ _ _ _ _ _ _ _ _ _ _ _ _ _ (F0 _ _ _ (va_rf (x_ad Γ w) :: _))
  cases hz : x_ad Γ w with
  | none => exact lv_astore_nN C.1 C.2.1 hd hi (x_L_has hL) hn rfl (fun ls' hl' => k p e Rm s m args below meth c H locs ls' Γ Qf C hH hS (x_L_store (w := .ref w) hn hx (by rw [show x_v Γ (.ref w) = .null from by show va_rf (x_ad Γ w) = _; rw [hz]; rfl]; exact hl')) F)
  | some b => exact lv_astore_n C.1 C.2.1 hd hi (x_L_has hL) hn rfl (fun ls' hl' => k p e Rm s m args below meth c H locs ls' Γ Qf C hH hS (x_L_store (w := .ref w) hn hx (by rw [show x_v Γ (.ref w) = .ref b from by show va_rf (x_ad Γ w) = _; rw [hz]; rfl]; exact hl')) F)
theorem x_astore (pc : Nat) (i : Nat) {w : Nat} (L' : List (Option Value)) (hd : decode μ.2.1 pc = .ok (.astore i, 2)) (hl : L.set i (some (.ref w)) = L') (hn : i < L.length) (hx : x_nl L i = true) (k : AW l μ d mc ms Φ u v (pc + 2) L' (S) M) : AW l μ d mc ms Φ u v pc L (.ref w :: S) M := by
  intro p e Rm s m args below meth c H locs ls Γ Qf C hH hS hL F
  subst hl
  change W _ _ _ _ _ _ _ _ _ _ _ _ _ _ _ (F0 _ _ _ (va_rf (x_ad Γ w) :: _))
  cases hz : x_ad Γ w with
  | none => exact lv_astoreN C.1 C.2.1 hd (x_L_has hL) hn rfl (fun ls' hl' => k p e Rm s m args below meth c H locs ls' Γ Qf C hH hS (x_L_store (w := .ref w) hn hx (by rw [show x_v Γ (.ref w) = .null from by show va_rf (x_ad Γ w) = _; rw [hz]; rfl]; exact hl')) F)
  | some b => exact lv_astore C.1 C.2.1 hd (x_L_has hL) hn rfl (fun ls' hl' => k p e Rm s m args below meth c H locs ls' Γ Qf C hH hS (x_L_store (w := .ref w) hn hx (by rw [show x_v Γ (.ref w) = .ref b from by show va_rf (x_ad Γ w) = _; rw [hz]; rfl]; exact hl')) F)
theorem x_iinc (pc : Nat) (i : Nat) {n : Int} {w : Int32} (w' : Int32) (L' : List (Option Value)) (hd : decode μ.2.1 pc = .ok (.iinc i n, 3)) (hg : L[i]? = some (some (.int w))) (hv : w + Int32.ofInt n = w') (hl : L.set i (some (.int w')) = L') (hn : i < L.length) (hx : x_nl L i = true) (k : AW l μ d mc ms Φ u v (pc + 3) L' (S) M) : AW l μ d mc ms Φ u v pc L (S) M := by
  intro p e Rm s m args below meth c H locs ls Γ Qf C hH hS hL F
  subst hl
  obtain ⟨kk, hkk⟩ := List.getElem?_of_mem (x_prs_of (Γ := Γ) hg)
  exact lv_iinc C.1 C.2.1 hd (x_L_has hL) (k := kk) hkk hv hn rfl (fun ls' hl' => k p e Rm s m args below meth c H locs ls' Γ Qf C hH hS (x_L_store (w := .int w') hn hx hl') F)
theorem x_iadd (pc : Nat) {x y : Int32} (hd : decode μ.2.1 pc = .ok (.iadd, 1)) (k : AW l μ d mc ms Φ u v (pc + 1) L (.int (x + y) :: S) M) : AW l μ d mc ms Φ u v pc L (.int y :: .int x :: S) M := by
  intro p e Rm s m args below meth c H locs ls Γ Qf C hH hS hL F
  exact lv_iadd C.1 C.2.1 hd (k p e Rm s m args below meth c H locs ls Γ Qf C hH hS hL F)
theorem x_isub (pc : Nat) {x y : Int32} (hd : decode μ.2.1 pc = .ok (.isub, 1)) (k : AW l μ d mc ms Φ u v (pc + 1) L (.int (x - y) :: S) M) : AW l μ d mc ms Φ u v pc L (.int y :: .int x :: S) M := by
  intro p e Rm s m args below meth c H locs ls Γ Qf C hH hS hL F
  exact lv_isub C.1 C.2.1 hd (k p e Rm s m args below meth c H locs ls Γ Qf C hH hS hL F)
theorem x_imul (pc : Nat) {x y : Int32} (hd : decode μ.2.1 pc = .ok (.imul, 1)) (k : AW l μ d mc ms Φ u v (pc + 1) L (.int (x * y) :: S) M) : AW l μ d mc ms Φ u v pc L (.int y :: .int x :: S) M := by
  intro p e Rm s m args below meth c H locs ls Γ Qf C hH hS hL F
  exact lv_imul C.1 C.2.1 hd (k p e Rm s m args below meth c H locs ls Γ Qf C hH hS hL F)
theorem x_iand (pc : Nat) {x y : Int32} (hd : decode μ.2.1 pc = .ok (.iand, 1)) (k : AW l μ d mc ms Φ u v (pc + 1) L (.int (x &&& y) :: S) M) : AW l μ d mc ms Φ u v pc L (.int y :: .int x :: S) M := by
  intro p e Rm s m args below meth c H locs ls Γ Qf C hH hS hL F
  exact lv_iand C.1 C.2.1 hd (k p e Rm s m args below meth c H locs ls Γ Qf C hH hS hL F)
theorem x_ior (pc : Nat) {x y : Int32} (hd : decode μ.2.1 pc = .ok (.ior, 1)) (k : AW l μ d mc ms Φ u v (pc + 1) L (.int (x ||| y) :: S) M) : AW l μ d mc ms Φ u v pc L (.int y :: .int x :: S) M := by
  intro p e Rm s m args below meth c H locs ls Γ Qf C hH hS hL F
  exact lv_ior C.1 C.2.1 hd (k p e Rm s m args below meth c H locs ls Γ Qf C hH hS hL F)
theorem x_ixor (pc : Nat) {x y : Int32} (hd : decode μ.2.1 pc = .ok (.ixor, 1)) (k : AW l μ d mc ms Φ u v (pc + 1) L (.int (x ^^^ y) :: S) M) : AW l μ d mc ms Φ u v pc L (.int y :: .int x :: S) M := by
  intro p e Rm s m args below meth c H locs ls Γ Qf C hH hS hL F
  exact lv_ixor C.1 C.2.1 hd (k p e Rm s m args below meth c H locs ls Γ Qf C hH hS hL F)
theorem x_idiv (pc : Nat) {x y : Int32} (hd : decode μ.2.1 pc = .ok (.idiv, 1)) (hne : ¬ y = 0) (k : AW l μ d mc ms Φ u v (pc + 1) L (.int (x / y) :: S) M) : AW l μ d mc ms Φ u v pc L (.int y :: .int x :: S) M := by
  intro p e Rm s m args below meth c H locs ls Γ Qf C hH hS hL F
  exact lv_idiv C.1 C.2.1 hd hne (k p e Rm s m args below meth c H locs ls Γ Qf C hH hS hL F)
theorem x_irem (pc : Nat) {x y : Int32} (hd : decode μ.2.1 pc = .ok (.irem, 1)) (hne : ¬ y = 0) (k : AW l μ d mc ms Φ u v (pc + 1) L (.int (x - x / y * y) :: S) M) : AW l μ d mc ms Φ u v pc L (.int y :: .int x :: S) M := by
  intro p e Rm s m args below meth c H locs ls Γ Qf C hH hS hL F
  exact lv_irem C.1 C.2.1 hd hne (k p e Rm s m args below meth c H locs ls Γ Qf C hH hS hL F)
theorem x_ineg (pc : Nat) {x : Int32} (hd : decode μ.2.1 pc = .ok (.ineg, 1)) (k : AW l μ d mc ms Φ u v (pc + 1) L (.int (-x) :: S) M) : AW l μ d mc ms Φ u v pc L (.int x :: S) M := by
  intro p e Rm s m args below meth c H locs ls Γ Qf C hH hS hL F
  exact lv_ineg C.1 C.2.1 hd (k p e Rm s m args below meth c H locs ls Γ Qf C hH hS hL F)
theorem x_lmul (pc : Nat) {x y : Int64} (hd : decode μ.2.1 pc = .ok (.lmul, 1)) (k : AW l μ d mc ms Φ u v (pc + 1) L (.long (x * y) :: S) M) : AW l μ d mc ms Φ u v pc L (.long y :: .long x :: S) M := by
  intro p e Rm s m args below meth c H locs ls Γ Qf C hH hS hL F
  exact lv_lmul C.1 C.2.1 hd (k p e Rm s m args below meth c H locs ls Γ Qf C hH hS hL F)
theorem x_land (pc : Nat) {x y : Int64} (hd : decode μ.2.1 pc = .ok (.land, 1)) (k : AW l μ d mc ms Φ u v (pc + 1) L (.long (x &&& y) :: S) M) : AW l μ d mc ms Φ u v pc L (.long y :: .long x :: S) M := by
  intro p e Rm s m args below meth c H locs ls Γ Qf C hH hS hL F
  exact lv_land C.1 C.2.1 hd (k p e Rm s m args below meth c H locs ls Γ Qf C hH hS hL F)
theorem x_lor (pc : Nat) {x y : Int64} (hd : decode μ.2.1 pc = .ok (.lor, 1)) (k : AW l μ d mc ms Φ u v (pc + 1) L (.long (x ||| y) :: S) M) : AW l μ d mc ms Φ u v pc L (.long y :: .long x :: S) M := by
  intro p e Rm s m args below meth c H locs ls Γ Qf C hH hS hL F
  exact lv_lor C.1 C.2.1 hd (k p e Rm s m args below meth c H locs ls Γ Qf C hH hS hL F)
theorem x_ldiv (pc : Nat) {x y : Int64} (hd : decode μ.2.1 pc = .ok (.ldiv, 1)) (hne : ¬ y = 0) (k : AW l μ d mc ms Φ u v (pc + 1) L (.long (x / y) :: S) M) : AW l μ d mc ms Φ u v pc L (.long y :: .long x :: S) M := by
  intro p e Rm s m args below meth c H locs ls Γ Qf C hH hS hL F
  exact lv_ldiv C.1 C.2.1 hd hne (k p e Rm s m args below meth c H locs ls Γ Qf C hH hS hL F)
theorem x_lshl (pc : Nat) {x : Int64} {y : Int32} (hd : decode μ.2.1 pc = .ok (.lshl, 1)) (k : AW l μ d mc ms Φ u v (pc + 1) L (.long (x <<< (y.toInt64 &&& 63)) :: S) M) : AW l μ d mc ms Φ u v pc L (.int y :: .long x :: S) M := by
  intro p e Rm s m args below meth c H locs ls Γ Qf C hH hS hL F
  exact lv_lshl C.1 C.2.1 hd rfl (k p e Rm s m args below meth c H locs ls Γ Qf C hH hS hL F)
theorem x_lcmp (pc : Nat) {x y : Int64} (hd : decode μ.2.1 pc = .ok (.lcmp, 1)) (k : AW l μ d mc ms Φ u v (pc + 1) L (.int (lg_cmp x y) :: S) M) : AW l μ d mc ms Φ u v pc L (.long y :: .long x :: S) M := by
  intro p e Rm s m args below meth c H locs ls Γ Qf C hH hS hL F
  exact W.lcmp C.1 C.2.1 hd (k p e Rm s m args below meth c H locs ls Γ Qf C hH hS hL F)
theorem x_iushr (pc : Nat) {x y : Int32} (hd : decode μ.2.1 pc = .ok (.iushr, 1)) (k : AW l μ d mc ms Φ u v (pc + 1) L (.int ((x.toUInt32 >>> (y.toUInt32 &&& Int32.toUInt32 31)).toInt32) :: S) M) : AW l μ d mc ms Φ u v pc L (.int y :: .int x :: S) M := by
  intro p e Rm s m args below meth c H locs ls Γ Qf C hH hS hL F
  exact lv_iushr C.1 C.2.1 hd rfl (k p e Rm s m args below meth c H locs ls Γ Qf C hH hS hL F)
theorem x_ishl (pc : Nat) {x y : Int32} (hd : decode μ.2.1 pc = .ok (.ishl, 1)) (k : AW l μ d mc ms Φ u v (pc + 1) L (.int (x <<< (y &&& 31)) :: S) M) : AW l μ d mc ms Φ u v pc L (.int y :: .int x :: S) M := by
  intro p e Rm s m args below meth c H locs ls Γ Qf C hH hS hL F
  exact lv_ishl C.1 C.2.1 hd (k p e Rm s m args below meth c H locs ls Γ Qf C hH hS hL F)
theorem x_ishr (pc : Nat) {x y : Int32} (hd : decode μ.2.1 pc = .ok (.ishr, 1)) (k : AW l μ d mc ms Φ u v (pc + 1) L (.int (x >>> (y &&& 31)) :: S) M) : AW l μ d mc ms Φ u v pc L (.int y :: .int x :: S) M := by
  intro p e Rm s m args below meth c H locs ls Γ Qf C hH hS hL F
  exact lv_ishr C.1 C.2.1 hd (k p e Rm s m args below meth c H locs ls Γ Qf C hH hS hL F)
theorem x_i2l (pc : Nat) {x : Int32} (hd : decode μ.2.1 pc = .ok (.i2l, 1)) (k : AW l μ d mc ms Φ u v (pc + 1) L (.long x.toInt64 :: S) M) : AW l μ d mc ms Φ u v pc L (.int x :: S) M := by
  intro p e Rm s m args below meth c H locs ls Γ Qf C hH hS hL F
  exact lv_i2l C.1 C.2.1 hd rfl (k p e Rm s m args below meth c H locs ls Γ Qf C hH hS hL F)
theorem x_l2i (pc : Nat) {x : Int64} (hd : decode μ.2.1 pc = .ok (.l2i, 1)) (k : AW l μ d mc ms Φ u v (pc + 1) L (.int x.toInt32 :: S) M) : AW l μ d mc ms Φ u v pc L (.long x :: S) M := by
  intro p e Rm s m args below meth c H locs ls Γ Qf C hH hS hL F
  exact lv_l2i C.1 C.2.1 hd rfl (k p e Rm s m args below meth c H locs ls Γ Qf C hH hS hL F)
theorem x_i2b (pc : Nat) {x : Int32} (hd : decode μ.2.1 pc = .ok (.i2b, 1)) (k : AW l μ d mc ms Φ u v (pc + 1) L (.int x.toInt8.toInt32 :: S) M) : AW l μ d mc ms Φ u v pc L (.int x :: S) M := by
  intro p e Rm s m args below meth c H locs ls Γ Qf C hH hS hL F
  exact lv_i2b C.1 C.2.1 hd rfl (k p e Rm s m args below meth c H locs ls Γ Qf C hH hS hL F)
theorem x_i2s (pc : Nat) {x : Int32} (hd : decode μ.2.1 pc = .ok (.i2s, 1)) (k : AW l μ d mc ms Φ u v (pc + 1) L (.int x.toInt16.toInt32 :: S) M) : AW l μ d mc ms Φ u v pc L (.int x :: S) M := by
  intro p e Rm s m args below meth c H locs ls Γ Qf C hH hS hL F
  exact lv_i2s C.1 C.2.1 hd rfl (k p e Rm s m args below meth c H locs ls Γ Qf C hH hS hL F)
theorem x_i2c (pc : Nat) {x : Int32} (hd : decode μ.2.1 pc = .ok (.i2c, 1)) (k : AW l μ d mc ms Φ u v (pc + 1) L (.int (x.toUInt32 % 65536).toInt32 :: S) M) : AW l μ d mc ms Φ u v pc L (.int x :: S) M := by
  intro p e Rm s m args below meth c H locs ls Γ Qf C hH hS hL F
  exact lv_i2c C.1 C.2.1 hd rfl (k p e Rm s m args below meth c H locs ls Γ Qf C hH hS hL F)
theorem x_dup (pc : Nat) {w : Value} (hd : decode μ.2.1 pc = .ok (.dup, 1)) (h1 : w.category = 1) (k : AW l μ d mc ms Φ u v (pc + 1) L (w :: w :: S) M) : AW l μ d mc ms Φ u v pc L (w :: S) M := by
  intro p e Rm s m args below meth c H locs ls Γ Qf C hH hS hL F
  exact lv_dup C.1 C.2.1 hd ((x_cat Γ w).trans h1) (k p e Rm s m args below meth c H locs ls Γ Qf C hH hS hL F)
theorem x_pop (pc : Nat) {w : Value} (hd : decode μ.2.1 pc = .ok (.pop, 1)) (h1 : w.category = 1) (k : AW l μ d mc ms Φ u v (pc + 1) L (S) M) : AW l μ d mc ms Φ u v pc L (w :: S) M := by
  intro p e Rm s m args below meth c H locs ls Γ Qf C hH hS hL F
  exact lv_pop C.1 C.2.1 hd ((x_cat Γ w).trans h1) (k p e Rm s m args below meth c H locs ls Γ Qf C hH hS hL F)
theorem x_dup_x1 (pc : Nat) {w z : Value} (hd : decode μ.2.1 pc = .ok (.dup_x1, 1)) (h1 : w.category = 1) (h2 : z.category = 1) (k : AW l μ d mc ms Φ u v (pc + 1) L (w :: z :: w :: S) M) : AW l μ d mc ms Φ u v pc L (w :: z :: S) M := by
  intro p e Rm s m args below meth c H locs ls Γ Qf C hH hS hL F
  exact lv_dup_x1 C.1 C.2.1 hd ((x_cat Γ w).trans h1) ((x_cat Γ z).trans h2) (k p e Rm s m args below meth c H locs ls Γ Qf C hH hS hL F)
theorem x_dup2 (pc : Nat) {w z : Value} (hd : decode μ.2.1 pc = .ok (.dup2, 1)) (h1 : w.category = 1) (h2 : z.category = 1) (k : AW l μ d mc ms Φ u v (pc + 1) L (w :: z :: w :: z :: S) M) : AW l μ d mc ms Φ u v pc L (w :: z :: S) M := by
  intro p e Rm s m args below meth c H locs ls Γ Qf C hH hS hL F
  exact lv_dup2_11 C.1 C.2.1 hd ((x_cat Γ w).trans h1) ((x_cat Γ z).trans h2) (k p e Rm s m args below meth c H locs ls Γ Qf C hH hS hL F)
theorem x_if_eq (pc tgt : Nat) {x : Int32} {off : Int} (hd : decode μ.2.1 pc = .ok (.ifCond .eq off, 3)) (ht : (pc : Int) + off = (tgt : Int)) (kt : x = 0 → AW l μ d mc ms Φ u v tgt L (S) M) (kf : ¬ x = 0 → AW l μ d mc ms Φ u v (pc + 3) L (S) M) : AW l μ d mc ms Φ u v pc L (.int x :: S) M := by
  intro p e Rm s m args below meth c H locs ls Γ Qf C hH hS hL F
  exact lv_if_eq C.1 C.2.1 hd ht (fun h => kt h p e Rm s m args below meth c H locs ls Γ Qf C hH hS hL F) (fun h => kf h p e Rm s m args below meth c H locs ls Γ Qf C hH hS hL F)
theorem x_icmp_eq (pc tgt : Nat) {x y : Int32} {off : Int} (hd : decode μ.2.1 pc = .ok (.if_icmp .eq off, 3)) (ht : (pc : Int) + off = (tgt : Int)) (kt : x = y → AW l μ d mc ms Φ u v tgt L (S) M) (kf : ¬ x = y → AW l μ d mc ms Φ u v (pc + 3) L (S) M) : AW l μ d mc ms Φ u v pc L (.int y :: .int x :: S) M := by
  intro p e Rm s m args below meth c H locs ls Γ Qf C hH hS hL F
  exact lv_icmp_eq C.1 C.2.1 hd ht (fun h => kt h p e Rm s m args below meth c H locs ls Γ Qf C hH hS hL F) (fun h => kf h p e Rm s m args below meth c H locs ls Γ Qf C hH hS hL F)
theorem x_if_ne (pc tgt : Nat) {x : Int32} {off : Int} (hd : decode μ.2.1 pc = .ok (.ifCond .ne off, 3)) (ht : (pc : Int) + off = (tgt : Int)) (kt : ¬ x = 0 → AW l μ d mc ms Φ u v tgt L (S) M) (kf : x = 0 → AW l μ d mc ms Φ u v (pc + 3) L (S) M) : AW l μ d mc ms Φ u v pc L (.int x :: S) M := by
  intro p e Rm s m args below meth c H locs ls Γ Qf C hH hS hL F
  exact lv_if_ne C.1 C.2.1 hd ht (fun h => kt h p e Rm s m args below meth c H locs ls Γ Qf C hH hS hL F) (fun h => kf h p e Rm s m args below meth c H locs ls Γ Qf C hH hS hL F)
theorem x_icmp_ne (pc tgt : Nat) {x y : Int32} {off : Int} (hd : decode μ.2.1 pc = .ok (.if_icmp .ne off, 3)) (ht : (pc : Int) + off = (tgt : Int)) (kt : ¬ x = y → AW l μ d mc ms Φ u v tgt L (S) M) (kf : x = y → AW l μ d mc ms Φ u v (pc + 3) L (S) M) : AW l μ d mc ms Φ u v pc L (.int y :: .int x :: S) M := by
  intro p e Rm s m args below meth c H locs ls Γ Qf C hH hS hL F
  exact lv_icmp_ne C.1 C.2.1 hd ht (fun h => kt h p e Rm s m args below meth c H locs ls Γ Qf C hH hS hL F) (fun h => kf h p e Rm s m args below meth c H locs ls Γ Qf C hH hS hL F)
theorem x_if_lt (pc tgt : Nat) {x : Int32} {off : Int} (hd : decode μ.2.1 pc = .ok (.ifCond .lt off, 3)) (ht : (pc : Int) + off = (tgt : Int)) (kt : x < 0 → AW l μ d mc ms Φ u v tgt L (S) M) (kf : ¬ x < 0 → AW l μ d mc ms Φ u v (pc + 3) L (S) M) : AW l μ d mc ms Φ u v pc L (.int x :: S) M := by
  intro p e Rm s m args below meth c H locs ls Γ Qf C hH hS hL F
  exact lv_if_lt C.1 C.2.1 hd ht (fun h => kt h p e Rm s m args below meth c H locs ls Γ Qf C hH hS hL F) (fun h => kf h p e Rm s m args below meth c H locs ls Γ Qf C hH hS hL F)
theorem x_icmp_lt (pc tgt : Nat) {x y : Int32} {off : Int} (hd : decode μ.2.1 pc = .ok (.if_icmp .lt off, 3)) (ht : (pc : Int) + off = (tgt : Int)) (kt : x < y → AW l μ d mc ms Φ u v tgt L (S) M) (kf : ¬ x < y → AW l μ d mc ms Φ u v (pc + 3) L (S) M) : AW l μ d mc ms Φ u v pc L (.int y :: .int x :: S) M := by
  intro p e Rm s m args below meth c H locs ls Γ Qf C hH hS hL F
  exact lv_icmp_lt C.1 C.2.1 hd ht (fun h => kt h p e Rm s m args below meth c H locs ls Γ Qf C hH hS hL F) (fun h => kf h p e Rm s m args below meth c H locs ls Γ Qf C hH hS hL F)
theorem x_if_ge (pc tgt : Nat) {x : Int32} {off : Int} (hd : decode μ.2.1 pc = .ok (.ifCond .ge off, 3)) (ht : (pc : Int) + off = (tgt : Int)) (kt : 0 ≤ x → AW l μ d mc ms Φ u v tgt L (S) M) (kf : ¬ 0 ≤ x → AW l μ d mc ms Φ u v (pc + 3) L (S) M) : AW l μ d mc ms Φ u v pc L (.int x :: S) M := by
  intro p e Rm s m args below meth c H locs ls Γ Qf C hH hS hL F
  exact lv_if_ge C.1 C.2.1 hd ht (fun h => kt h p e Rm s m args below meth c H locs ls Γ Qf C hH hS hL F) (fun h => kf h p e Rm s m args below meth c H locs ls Γ Qf C hH hS hL F)
theorem x_icmp_ge (pc tgt : Nat) {x y : Int32} {off : Int} (hd : decode μ.2.1 pc = .ok (.if_icmp .ge off, 3)) (ht : (pc : Int) + off = (tgt : Int)) (kt : y ≤ x → AW l μ d mc ms Φ u v tgt L (S) M) (kf : ¬ y ≤ x → AW l μ d mc ms Φ u v (pc + 3) L (S) M) : AW l μ d mc ms Φ u v pc L (.int y :: .int x :: S) M := by
  intro p e Rm s m args below meth c H locs ls Γ Qf C hH hS hL F
  exact lv_icmp_ge C.1 C.2.1 hd ht (fun h => kt h p e Rm s m args below meth c H locs ls Γ Qf C hH hS hL F) (fun h => kf h p e Rm s m args below meth c H locs ls Γ Qf C hH hS hL F)
theorem x_if_gt (pc tgt : Nat) {x : Int32} {off : Int} (hd : decode μ.2.1 pc = .ok (.ifCond .gt off, 3)) (ht : (pc : Int) + off = (tgt : Int)) (kt : 0 < x → AW l μ d mc ms Φ u v tgt L (S) M) (kf : ¬ 0 < x → AW l μ d mc ms Φ u v (pc + 3) L (S) M) : AW l μ d mc ms Φ u v pc L (.int x :: S) M := by
  intro p e Rm s m args below meth c H locs ls Γ Qf C hH hS hL F
  exact lv_if_gt C.1 C.2.1 hd ht (fun h => kt h p e Rm s m args below meth c H locs ls Γ Qf C hH hS hL F) (fun h => kf h p e Rm s m args below meth c H locs ls Γ Qf C hH hS hL F)
theorem x_icmp_gt (pc tgt : Nat) {x y : Int32} {off : Int} (hd : decode μ.2.1 pc = .ok (.if_icmp .gt off, 3)) (ht : (pc : Int) + off = (tgt : Int)) (kt : y < x → AW l μ d mc ms Φ u v tgt L (S) M) (kf : ¬ y < x → AW l μ d mc ms Φ u v (pc + 3) L (S) M) : AW l μ d mc ms Φ u v pc L (.int y :: .int x :: S) M := by
  intro p e Rm s m args below meth c H locs ls Γ Qf C hH hS hL F
  exact lv_icmp_gt C.1 C.2.1 hd ht (fun h => kt h p e Rm s m args below meth c H locs ls Γ Qf C hH hS hL F) (fun h => kf h p e Rm s m args below meth c H locs ls Γ Qf C hH hS hL F)
theorem x_if_le (pc tgt : Nat) {x : Int32} {off : Int} (hd : decode μ.2.1 pc = .ok (.ifCond .le off, 3)) (ht : (pc : Int) + off = (tgt : Int)) (kt : x ≤ 0 → AW l μ d mc ms Φ u v tgt L (S) M) (kf : ¬ x ≤ 0 → AW l μ d mc ms Φ u v (pc + 3) L (S) M) : AW l μ d mc ms Φ u v pc L (.int x :: S) M := by
  intro p e Rm s m args below meth c H locs ls Γ Qf C hH hS hL F
  exact lv_if_le C.1 C.2.1 hd ht (fun h => kt h p e Rm s m args below meth c H locs ls Γ Qf C hH hS hL F) (fun h => kf h p e Rm s m args below meth c H locs ls Γ Qf C hH hS hL F)
theorem x_icmp_le (pc tgt : Nat) {x y : Int32} {off : Int} (hd : decode μ.2.1 pc = .ok (.if_icmp .le off, 3)) (ht : (pc : Int) + off = (tgt : Int)) (kt : x ≤ y → AW l μ d mc ms Φ u v tgt L (S) M) (kf : ¬ x ≤ y → AW l μ d mc ms Φ u v (pc + 3) L (S) M) : AW l μ d mc ms Φ u v pc L (.int y :: .int x :: S) M := by
  intro p e Rm s m args below meth c H locs ls Γ Qf C hH hS hL F
  exact lv_icmp_le C.1 C.2.1 hd ht (fun h => kt h p e Rm s m args below meth c H locs ls Γ Qf C hH hS hL F) (fun h => kf h p e Rm s m args below meth c H locs ls Γ Qf C hH hS hL F)
theorem x_goto (pc tgt : Nat) {off : Int} (hd : decode μ.2.1 pc = .ok (.goto off, 3)) (ht : (pc : Int) + off = (tgt : Int)) (k : AW l μ d mc ms Φ u v tgt L (S) M) : AW l μ d mc ms Φ u v pc L (S) M := by
  intro p e Rm s m args below meth c H locs ls Γ Qf C hH hS hL F
  exact lv_goto C.1 C.2.1 hd ht (k p e Rm s m args below meth c H locs ls Γ Qf C hH hS hL F)
theorem x_lookup (pc tgt : Nat) {x : Int32} {dflt off : Int} {ps : Array (Int × Int)} {len : Nat} (hd : decode μ.2.1 pc = .ok (.lookupswitch dflt ps, len)) (hp : (ps.toList.zip (ps.toList.drop 1)).all (fun (a, next) => a.1 < next.1) = true) (ho : Op.lookupswitch.offset ps.toList dflt x.toInt = off) (ht : (pc : Int) + off = (tgt : Int)) (k : AW l μ d mc ms Φ u v tgt L (S) M) : AW l μ d mc ms Φ u v pc L (.int x :: S) M := by
  intro p e Rm s m args below meth c H locs ls Γ Qf C hH hS hL F
  exact lv_lookup C.1 C.2.1 hd hp ho ht (k p e Rm s m args below meth c H locs ls Γ Qf C hH hS hL F)
theorem x_tableOut (pc tgt : Nat) {x : Int32} {dflt lo hi : Int} {offs : Array Int} {len : Nat} (hd : decode μ.2.1 pc = .ok (.tableswitch dflt lo hi offs, len)) (h : x.toInt < lo ∨ hi < x.toInt) (ht : (pc : Int) + dflt = (tgt : Int)) (k : AW l μ d mc ms Φ u v tgt L (S) M) : AW l μ d mc ms Φ u v pc L (.int x :: S) M := by
  intro p e Rm s m args below meth c H locs ls Γ Qf C hH hS hL F
  exact lv_tableOut C.1 C.2.1 hd h ht (k p e Rm s m args below meth c H locs ls Γ Qf C hH hS hL F)
theorem x_tableIn (pc tgt : Nat) {x : Int32} {dflt lo hi off : Int} {offs : Array Int} {len : Nat} (hd : decode μ.2.1 pc = .ok (.tableswitch dflt lo hi offs, len)) (h1 : ¬ x.toInt < lo) (h2 : ¬ hi < x.toInt) (ho : offs[(x.toInt - lo).toNat]? = some off) (ht : (pc : Int) + off = (tgt : Int)) (k : AW l μ d mc ms Φ u v tgt L (S) M) : AW l μ d mc ms Φ u v pc L (.int x :: S) M := by
  intro p e Rm s m args below meth c H locs ls Γ Qf C hH hS hL F
  exact lv_tableIn C.1 C.2.1 hd h1 h2 ho ht (k p e Rm s m args below meth c H locs ls Γ Qf C hH hS hL F)
theorem x_iret (pc : Nat) {w : Int32} (hd : decode μ.2.1 pc = .ok (.ireturn, 1)) (ty : FieldType) (ht : μ.2.2.2 = some ty) (hn : narrow ty (.int w) = .int w) (hu : u ≤ mc) (hv : v ≤ ms) (h : Φ (some (.int w)) M) : AW l μ d mc ms Φ u v pc L ([.int w]) M := by
  intro p e Rm s m args below meth c H locs ls Γ Qf C hH hS hL F
  exact F (some (.int w)) M H locs u v pc ls h hH hS hu hv ⟨hd, ty, ht, hn⟩
theorem x_lret (pc : Nat) {w : Int64} (hd : decode μ.2.1 pc = .ok (.lreturn, 1)) (ht : μ.2.2.2 = some .long) (hu : u ≤ mc) (hv : v ≤ ms) (h : Φ (some (.long w)) M) : AW l μ d mc ms Φ u v pc L ([.long w]) M := by
  intro p e Rm s m args below meth c H locs ls Γ Qf C hH hS hL F
  exact F (some (.long w)) M H locs u v pc ls h hH hS hu hv ⟨hd, ht⟩
theorem x_aret (pc : Nat) {w : Nat} (hd : decode μ.2.1 pc = .ok (.areturn, 1)) (ty : FieldType) (ht : μ.2.2.2 = some ty) (hn : (∃ n, ty = .object n) ∨ ∃ t, ty = .array t) (hu : u ≤ mc) (hv : v ≤ ms) (h : Φ (some (.ref w)) M) : AW l μ d mc ms Φ u v pc L ([.ref w]) M := by
  intro p e Rm s m args below meth c H locs ls Γ Qf C hH hS hL F
  exact F (some (.ref w)) M H locs u v pc ls h hH hS hu hv ⟨hd, ty, ht, hn⟩
theorem x_vret (pc : Nat) (hd : decode μ.2.1 pc = .ok (.return_, 1)) (ht : μ.2.2.2 = none) (hu : u ≤ mc) (hv : v ≤ ms) (h : Φ none M) : AW l μ d mc ms Φ u v pc L ([]) M := by
  intro p e Rm s m args below meth c H locs ls Γ Qf C hH hS hL F
  exact F none M H locs u v pc ls h hH hS hu hv ⟨hd, ht⟩
end
