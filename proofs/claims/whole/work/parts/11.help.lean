theorem x_ckp {α : Type} {c : Prop} [Decidable c] {T : Option α} {r : α} (h : (if c then T else none) = some r) : c ∧ T = some r := by
  by_cases hc : c
  · rw [if_pos hc] at h
    exact ⟨hc, h⟩
  · rw [if_neg hc] at h
    cases h
theorem x_cnz {α : Type} {c : Prop} [Decidable c] {T : Option α} {r : α} (h : (if c then none else T) = some r) : ¬ c ∧ T = some r := by
  by_cases hc : c
  · rw [if_pos hc] at h
    cases h
  · rw [if_neg hc] at h
    exact ⟨hc, h⟩
theorem x_ifp {α : Type} {c : Prop} [Decidable c] {A B : Option α} {r : α} (hc : c) (h : (if c then A else B) = some r) : A = some r := by rwa [if_pos hc] at h
theorem x_ifn {α : Type} {c : Prop} [Decidable c] {A B : Option α} {r : α} (hc : ¬ c) (h : (if c then A else B) = some r) : B = some r := by rwa [if_neg hc] at h
def x_rec {α : Type} (z : α) (f : α → α) : Nat → α
  | 0 => z
  | n + 1 => f (x_rec z f n)
/-- what a loop may last -/
def x_fuel : Nat := 1000000
theorem x_narZ {w : Int32} (h : w = 0 ∨ w = 1) : narrow .boolean (.int w) = .int w := by
  rcases h with rfl | rfl <;> rfl
theorem x_narV {ty : FieldType} {w : Int32} (hty : narrow ty (.int w) = .int (vp_nar ty w)) (h : vp_nar ty w = w) : narrow ty (.int w) = .int w := by rw [hty, h]
section
variable {l : Launch} {μ : XU} {d mc ms : Nat} {Φ : Option Value → XM → Prop} {u v : Nat} {L : List (Option Value)} {S : List Value} {M : XM}
theorem x_widen {u' v' pc : Nat} (hu : u ≤ u') (hv : v ≤ v') (k : AW l μ d mc ms Φ u' v' pc L S M) : AW l μ d mc ms Φ u v pc L S M := by
  intro p e Rm s m args below meth c H locs ls Γ Qf C hH hS hL F
  exact W.widen hu hv (k p e Rm s m args below meth c H locs ls Γ Qf C hH hS hL F)
theorem x_putI (pc idx ci kf : Nat) {a : Nat} {w : Int32} (hd : decode μ.2.1 pc = .ok (.putfield idx, 3)) (hl : Cond.fieldLink μ.1.cls idx (x_R ci) (x_T ci kf).2.1 (x_T ci kf).2.2.1 ∈ x_TB) (hci : ci < 10) (hk : kf < x_N ci) (hown : (x_T ci kf).1 = x_R ci) (hw : x_fits (x_ty ci kf) (.int w)) (hfin : (x_T ci kf).2.2.2 = false ∨ (μ.1.name = "<init>" ∧ μ.1.cls = x_R ci)) (ht : x_tag M a = ci + 10)
    (k : AW l μ d mc ms Φ u v (pc + 3) L S (x_wi M a kf w)) : AW l μ d mc ms Φ u v pc L (.int w :: .ref a :: S) M := x_putf pc idx ci kf hd hl hci hk hown hw hfin ht k
theorem x_putR (pc idx ci kf : Nat) {a w : Nat} (hd : decode μ.2.1 pc = .ok (.putfield idx, 3)) (hl : Cond.fieldLink μ.1.cls idx (x_R ci) (x_T ci kf).2.1 (x_T ci kf).2.2.1 ∈ x_TB) (hci : ci < 10) (hk : kf < x_N ci) (hown : (x_T ci kf).1 = x_R ci) (hw : x_fits (x_ty ci kf) (.ref w)) (hfin : (x_T ci kf).2.2.2 = false ∨ (μ.1.name = "<init>" ∧ μ.1.cls = x_R ci)) (ht : x_tag M a = ci + 10)
    (k : AW l μ d mc ms Φ u v (pc + 3) L S (x_wr M a kf w)) : AW l μ d mc ms Φ u v pc L (.ref w :: .ref a :: S) M := x_putf pc idx ci kf hd hl hci hk hown hw hfin ht k
end
