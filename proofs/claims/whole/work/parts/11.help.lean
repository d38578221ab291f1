theorem x_ckp {α : Type} {c : Prop} [Decidable c] {T : Option α} {r : α} (h : (if c then T else none) = some r) : c ∧ T = some r := by
  by_cases hc : c
  · rw [if_pos hc] at h
    exact ⟨hc, h⟩
  · rw [if_neg hc] at h
    cases h
theorem x_cnz {α : Type} {c : Prop} [Decidable c] {T : Option α} {r : α} (h : (if c then none else T) = some r) : ¬ c ∧ T = some r := by
  by_cases hc : c
  · rw [if_pos hc] at h
    cases h
  · rw [if_neg hc] at h
    exact ⟨hc, h⟩
theorem x_ifp {α : Type} {c : Prop} [Decidable c] {A B : Option α} {r : α} (hc : c) (h : (if c then A else B) = some r) : A = some r := by rwa [if_pos hc] at h
theorem x_ifn {α : Type} {c : Prop} [Decidable c] {A B : Option α} {r : α} (hc : ¬ c) (h : (if c then A else B) = some r) : B = some r := by rwa [if_neg hc] at h
def x_rec {α : Type} (z : α) (f : α → α) : Nat → α
  | 0 => z
  | n + 1 => f (x_rec z f n)
/-- what a loop may last -/
def x_fuel : Nat := 1000000
theorem x_narZ {w : Int32} (h : w = 0 ∨ w = 1) : narrow .boolean (.int w) = .int w := by
  rcases h with rfl | rfl <;> rfl
theorem x_narV {ty : FieldType} {w : Int32} (hty : narrow ty (.int w) = .int (vp_nar ty w)) (h : vp_nar ty w = w) : narrow ty (.int w) = .int w := by rw [hty, h]
section
variable {l : Launch} {μ : XU} {d mc ms : Nat} {Φ : Option Value → XM → Prop} {u v : Nat} {L : List (Option Value)} {S : List Value} {M : XM}
theorem x_widen {u' v' pc : Nat} (hu : u ≤ u') (hv : v ≤ v') (k : AW l μ d mc ms Φ u' v' pc L S M) : AW l μ d mc ms Φ u v pc L S M := by
  intro p e Rm s m args below meth c H locs ls Γ Qf C hH hS hL F
  exact W.widen hu hv (k p e Rm s m args below meth c H locs ls Γ Qf C hH hS hL F)
theorem x_putI (pc idx ci kf : Nat) {a : Nat} {w : Int32} (hd : decode μ.2.1 pc = .ok (.putfield idx, 3)) (hl : Cond.fieldLink μ.1.cls idx (x_R ci) (x_T ci kf).2.1 (x_T ci kf).2.2.1 ∈ x_TB) (hci : ci < 10) (hk : kf < x_N ci) (hown : (x_T ci kf).1 = x_R ci) (hw : x_fits (x_ty ci kf) (.int w)) (hfin : (x_T ci kf).2.2.2 = false ∨ (μ.1.name = "<init>" ∧ μ.1.cls = x_R ci)) (ht : x_tag M a = ci + 10)
    (k : AW l μ d mc ms Φ u v (pc + 3) L S (x_wi M a kf w)) : AW l μ d mc ms Φ u v pc L (.int w :: .ref a :: S) M := x_putf pc idx ci kf hd hl hci hk hown hw hfin ht k
theorem x_putR (pc idx ci kf : Nat) {a w : Nat} (hd : decode μ.2.1 pc = .ok (.putfield idx, 3)) (hl : Cond.fieldLink μ.1.cls idx (x_R ci) (x_T ci kf).2.1 (x_T ci kf).2.2.1 ∈ x_TB) (hci : ci < 10) (hk : kf < x_N ci) (hown : (x_T ci kf).1 = x_R ci) (hw : x_fits (x_ty ci kf) (.ref w)) (hfin : (x_T ci kf).2.2.2 = false ∨ (μ.1.name = "<init>" ∧ μ.1.cls = x_R ci)) (ht : x_tag M a = ci + 10)
    (k : AW l μ d mc ms Φ u v (pc + 3) L S (x_wr M a kf w)) : AW l μ d mc ms Φ u v pc L (.ref w :: .ref a :: S) M := x_putf pc idx ci kf hd hl hci hk hown hw hfin ht k
theorem x_putI' (pc idx ci kf : Nat) {a : Nat} {w : Int32} {M' : XM} (hd : decode μ.2.1 pc = .ok (.putfield idx, 3)) (hl : Cond.fieldLink μ.1.cls idx (x_R ci) (x_T ci kf).2.1 (x_T ci kf).2.2.1 ∈ x_TB) (hci : ci < 10) (hk : kf < x_N ci) (hown : (x_T ci kf).1 = x_R ci) (hw : x_fits (x_ty ci kf) (.int w)) (hfin : (x_T ci kf).2.2.2 = false ∨ (μ.1.name = "<init>" ∧ μ.1.cls = x_R ci)) (ht : x_tag M a = ci + 10) (hM : M' = x_wi M a kf w)
    (k : AW l μ d mc ms Φ u v (pc + 3) L S M') : AW l μ d mc ms Φ u v pc L (.int w :: .ref a :: S) M := x_putf pc idx ci kf hd hl hci hk hown hw hfin ht (by subst hM; exact k)
theorem x_putR' (pc idx ci kf : Nat) {a w : Nat} {M' : XM} (hd : decode μ.2.1 pc = .ok (.putfield idx, 3)) (hl : Cond.fieldLink μ.1.cls idx (x_R ci) (x_T ci kf).2.1 (x_T ci kf).2.2.1 ∈ x_TB) (hci : ci < 10) (hk : kf < x_N ci) (hown : (x_T ci kf).1 = x_R ci) (hw : x_fits (x_ty ci kf) (.ref w)) (hfin : (x_T ci kf).2.2.2 = false ∨ (μ.1.name = "<init>" ∧ μ.1.cls = x_R ci)) (ht : x_tag M a = ci + 10) (hM : M' = x_wr M a kf w)
    (k : AW l μ d mc ms Φ u v (pc + 3) L S M') : AW l μ d mc ms Φ u v pc L (.ref w :: .ref a :: S) M := x_putf pc idx ci kf hd hl hci hk hown hw hfin ht (by subst hM; exact k)
theorem x_iast' (pc : Nat) {a : Nat} {i w : Int32} {M' : XM} (hd : decode μ.2.1 pc = .ok (.iastore, 1)) (ht : x_at M a 1 i = true) (hM : M' = x_wi M a i.toNatClampNeg w) (k : AW l μ d mc ms Φ u v (pc + 1) L S M') : AW l μ d mc ms Φ u v pc L (.int w :: .int i :: .ref a :: S) M := x_iast pc hd ht (by subst hM; exact k)
theorem x_last' (pc : Nat) {a : Nat} {i : Int32} {w : Int64} {M' : XM} (hd : decode μ.2.1 pc = .ok (.lastore, 1)) (ht : x_at M a 2 i = true) (hM : M' = x_wj M a i.toNatClampNeg w) (k : AW l μ d mc ms Φ u v (pc + 1) L S M') : AW l μ d mc ms Φ u v pc L (.long w :: .int i :: .ref a :: S) M := x_last pc hd ht (by subst hM; exact k)
theorem x_aast3' (pc : Nat) {a w : Nat} {i : Int32} {M' : XM} (hd : decode μ.2.1 pc = .ok (.aastore, 1)) (ht : x_at M a 3 i = true) (hw : x_tag M w = 2 + 10) (hM : M' = x_wr M a i.toNatClampNeg w) (k : AW l μ d mc ms Φ u v (pc + 1) L S M') : AW l μ d mc ms Φ u v pc L (.ref w :: .int i :: .ref a :: S) M := x_aast3 pc hd ht hw (by subst hM; exact k)
theorem x_aast4' (pc : Nat) {a w : Nat} {i : Int32} {M' : XM} (hd : decode μ.2.1 pc = .ok (.aastore, 1)) (ht : x_at M a 4 i = true) (hw : x_tag M w = 6 + 10) (hM : M' = x_wr M a i.toNatClampNeg w) (k : AW l μ d mc ms Φ u v (pc + 1) L S M') : AW l μ d mc ms Φ u v pc L (.ref w :: .int i :: .ref a :: S) M := x_aast4 pc hd ht hw (by subst hM; exact k)
theorem x_acopy' (pc idx : Nat) {a b : Nat} {sp dp n : Int32} {M' : XM} (hd : decode μ.2.1 pc = .ok (.invokestatic idx, 3)) (hl : Cond.methodLink μ.1.cls idx arraycopyName ∈ x_TB) (hnat : Cond.native arraycopyName ∈ x_TB) (hst : Cond.static arraycopyName ∈ x_TB) (hi : Cond.initialized "java/lang/System" ∈ x_TB) (hLn : L.length = μ.2.2.1) (hS8 : (S.map fun w => w.category).sum ≤ 8) (hdd : 1 ≤ d) (hok : x_cpok M a b sp dp n = true) (hM : M' = x_cpj M a sp.toNatClampNeg b dp.toNatClampNeg n.toNatClampNeg)
    (k : AW l μ d mc ms Φ u v (pc + 3) L S M') : AW l μ d mc ms Φ u v pc L (.int n :: .int dp :: .ref b :: .int sp :: .ref a :: S) M := x_acopy pc idx hd hl hnat hst hi hLn hS8 hdd hok (by subst hM; exact k)
theorem x_newc' (pc idx ci : Nat) {a : Nat} {M' : XM} (hd : decode μ.2.1 pc = .ok (.new idx, 3)) (hci : ci < 10) (hcl : Cond.classLink μ.1.cls idx (x_R ci) ∈ x_TB) (hins : Cond.instantiable (x_R ci) (x_N ci) ∈ x_TB) (hini : Cond.initialized (x_R ci) ∈ x_TB) (hu : u + 1 ≤ mc) (hv : v + x_N ci ≤ ms) (ha : a = x_n M) (hM : M' = x_new M (ci + 10) 0)
    (k : AW l μ d mc ms Φ (u + 1) (v + x_N ci) (pc + 3) L (.ref a :: S) M') : AW l μ d mc ms Φ u v pc L S M := x_newc pc idx ci hd hci hcl hins hini hu hv (by subst ha; subst hM; exact k)
theorem x_newI' (pc : Nat) {w : Int32} (n : Nat) {a : Nat} {M' : XM} (hd : decode μ.2.1 pc = .ok (.newarray .int, 2)) (hc : Cond.arrayClass (newarray.typeOf .int) ∈ x_TB) (h0 : ¬ w < 0) (hn : w.toNatClampNeg = n) (hby : n * 4 ≤ 536870912) (hu : u + 1 ≤ mc) (hv : v + n ≤ ms) (ha : a = x_n M) (hM : M' = x_new M 1 n)
    (k : AW l μ d mc ms Φ (u + 1) (v + n) (pc + 2) L (.ref a :: S) M') : AW l μ d mc ms Φ u v pc L (.int w :: S) M := x_newI pc n hd hc h0 hn hby hu hv (by subst ha; subst hM; exact k)
theorem x_newL' (pc : Nat) {w : Int32} (n : Nat) {a : Nat} {M' : XM} (hd : decode μ.2.1 pc = .ok (.newarray .long, 2)) (hc : Cond.arrayClass (newarray.typeOf .long) ∈ x_TB) (h0 : ¬ w < 0) (hn : w.toNatClampNeg = n) (hby : n * 8 ≤ 536870912) (hu : u + 1 ≤ mc) (hv : v + n ≤ ms) (ha : a = x_n M) (hM : M' = x_new M 2 n)
    (k : AW l μ d mc ms Φ (u + 1) (v + n) (pc + 2) L (.ref a :: S) M') : AW l μ d mc ms Φ u v pc L (.int w :: S) M := x_newL pc n hd hc h0 hn hby hu hv (by subst ha; subst hM; exact k)
theorem x_anew3' (pc idx : Nat) {w : Int32} (n : Nat) {a : Nat} {M' : XM} (hd : decode μ.2.1 pc = .ok (.anewarray idx, 3)) (hcl : Cond.classLink μ.1.cls idx RX2 ∈ x_TB) (h0 : ¬ w < 0) (hn : w.toNatClampNeg = n) (hby : n * 4 ≤ 536870912) (hu : u + 1 ≤ mc) (hv : v + n ≤ ms) (ha : a = x_n M) (hM : M' = x_new M 3 n)
    (k : AW l μ d mc ms Φ (u + 1) (v + n) (pc + 3) L (.ref a :: S) M') : AW l μ d mc ms Φ u v pc L (.int w :: S) M := x_anew3 pc idx n hd hcl h0 hn hby hu hv (by subst ha; subst hM; exact k)
theorem x_anew4' (pc idx : Nat) {w : Int32} (n : Nat) {a : Nat} {M' : XM} (hd : decode μ.2.1 pc = .ok (.anewarray idx, 3)) (hcl : Cond.classLink μ.1.cls idx RX6 ∈ x_TB) (h0 : ¬ w < 0) (hn : w.toNatClampNeg = n) (hby : n * 4 ≤ 536870912) (hu : u + 1 ≤ mc) (hv : v + n ≤ ms) (ha : a = x_n M) (hM : M' = x_new M 4 n)
    (k : AW l μ d mc ms Φ (u + 1) (v + n) (pc + 3) L (.ref a :: S) M') : AW l μ d mc ms Φ u v pc L (.int w :: S) M := x_anew4 pc idx n hd hcl h0 hn hby hu hv (by subst ha; subst hM; exact k)
end
def x_lt {β : Type} (M : XM) (k : XM → Option β) : Option β := k M
theorem x_lt_of {β : Type} {M : XM} {k : XM → Option β} {b : β} (h : x_lt M k = some b) : ∃ M', M' = M ∧ k M' = some b := ⟨M, rfl, h⟩
def x_al {β : Type} (M : XM) (t n : Nat) (k : Nat → XM → Option β) : Option β := k (x_n M) (x_new M t n)
theorem x_al_of {β : Type} {M : XM} {t n : Nat} {k : Nat → XM → Option β} {b : β} (h : x_al M t n k = some b) : ∃ a M', a = x_n M ∧ M' = x_new M t n ∧ k a M' = some b := ⟨_, _, rfl, rfl, h⟩
theorem x_al_tag {M M' : XM} {t n a : Nat} (ha : a = x_n M) (hM : M' = x_new M t n) : x_tag M' a = t := by rw [ha, hM]; exact x_new_tag _ _ _
/-- fewer locals known -/
def x_le : List (Option Value) → List (Option Value) → Prop
  | [], [] => True
  | a :: as, b :: bs => (a = none ∨ a = b) ∧ x_le as bs
  | _, _ => False
theorem le_0 : x_le [] [] := trivial
theorem le_s {a : Option Value} {as bs : List (Option Value)} (h : x_le as bs) : x_le (a :: as) (a :: bs) := ⟨Or.inr rfl, h⟩
theorem le_n {b : Option Value} {as bs : List (Option Value)} (h : x_le as bs) : x_le (none :: as) (b :: bs) := ⟨Or.inl rfl, h⟩
theorem x_le_spec : ∀ {L' L : List (Option Value)}, x_le L' L → L'.length = L.length ∧ ∀ (i : Nat) (w : Value), L'[i]? = some (some w) → L[i]? = some (some w)
  | [], [], _ => ⟨rfl, fun i w h => by simp at h⟩
  | a :: as, b :: bs, h => by
    obtain ⟨h1, h2⟩ := h
    obtain ⟨e1, e2⟩ := x_le_spec h2
    refine ⟨by simp [e1], fun i w hw => ?_⟩
    cases i with
    | zero =>
      rcases h1 with rfl | rfl
      · simp at hw
      · exact hw
    | succ i =>
      rw [List.getElem?_cons_succ] at hw ⊢
      exact e2 i w hw
  | [], b :: bs, h => h.elim
  | a :: as, [], h => h.elim
theorem x_wk {l : Launch} {μ : XU} {d mc ms : Nat} {Φ : Option Value → XM → Prop} {u v pc : Nat} {L L' : List (Option Value)} {S : List Value} {M : XM} (h : x_le L' L) (k : AW l μ d mc ms Φ u v pc L' S M) : AW l μ d mc ms Φ u v pc L S M := by
  intro p e Rm s m args below meth c H locs ls Γ Qf C hH hS hL F
  obtain ⟨e1, e2⟩ := x_le_spec h
  exact k p e Rm s m args below meth c H locs ls Γ Qf C hH hS ⟨hL.1.trans e1.symm, hL.2.1, fun i w hw => hL.2.2 i w (e2 i w hw)⟩ F
