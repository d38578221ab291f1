/-! THE ABSTRACT ROOM: 0 many, 1 N, 2 APART, 3 ODDS, 4 COST, 5 how many TALLIES; rows 0 KIND, 1 a, 2 AT, 3 HEARD, 4 TALLIES; OFF; DONE; SEED -/
abbrev XR : Type := (Nat → Nat) × (Nat → Nat → Nat) × (Nat → Int32) × Int32 × Int32
def r_s (ρ : XR) : Nat → Nat := ρ.1
def r_q (ρ : XR) : Nat → Nat → Nat := ρ.2.1
def r_off (ρ : XR) : Nat → Int32 := ρ.2.2.1
def r_done (ρ : XR) : Int32 := ρ.2.2.2.1
def r_seed (ρ : XR) : Int32 := ρ.2.2.2.2
def w_s (ρ : XR) (k v : Nat) : XR := (fun j => if j = k then v else ρ.1 j, ρ.2)
def w_q (ρ : XR) (f c v : Nat) : XR := (ρ.1, fun g j => if g = f ∧ j = c then v else ρ.2.1 g j, ρ.2.2)
def w_off (ρ : XR) (c : Nat) (v : Int32) : XR := (ρ.1, ρ.2.1, fun j => if j = c then v else ρ.2.2.1 j, ρ.2.2.2)
def w_done (ρ : XR) (v : Int32) : XR := (ρ.1, ρ.2.1, ρ.2.2.1, v, ρ.2.2.2.2)
def w_seed (ρ : XR) (v : Int32) : XR := (ρ.1, ρ.2.1, ρ.2.2.1, ρ.2.2.2.1, v)
/-- a Room of the class, with its cells -/
def CR (r : Nat) (ρ : XR) (M : XM) : Prop :=
  (x_i M r 1 = nI (r_s ρ 0) ∧ x_i M r 2 = nI (r_s ρ 1) ∧ x_i M r 3 = nI (r_s ρ 2) ∧ x_i M r 4 = nI (r_s ρ 3) ∧ x_i M r 5 = nI (r_s ρ 4) ∧ x_i M r 7 = nI (r_s ρ 5) ∧ x_i M r 8 = r_done ρ ∧ x_i M r 9 = r_seed ρ) ∧
  (∀ c, c < 6 → x_i M (r + 3 + c) 0 = nI (r_q ρ 0 c) ∧ x_i M (r + 3 + c) 1 = nI (r_q ρ 1 c) ∧ x_i M (r + 3 + c) 2 = nI (r_q ρ 2 c) ∧ x_i M (r + 3 + c) 3 = r_off ρ c ∧ x_i M (r + 3 + c) 4 = nI (r_q ρ 3 c)) ∧
  ∀ i, i < 8 → x_i M (r + 2) i = nI (r_q ρ 4 i)
/-- the reference's room -/
def MR (ρ : XR) (M : XM) : Prop :=
  (x_i M 83 0 = nI (r_s ρ 0) ∧ x_i M 83 1 = nI (r_s ρ 1) ∧ x_i M 83 2 = nI (r_s ρ 2) ∧ x_i M 83 3 = nI (r_s ρ 3) ∧ x_i M 83 4 = nI (r_s ρ 4) ∧ x_i M 83 6 = nI (r_s ρ 5) ∧ x_i M 83 5 = r_done ρ ∧ x_i M 83 7 = r_seed ρ) ∧
  (∀ c, c < 6 → x_i M 85 c = nI (r_q ρ 0 c) ∧ x_i M 86 c = nI (r_q ρ 1 c) ∧ x_i M 87 c = nI (r_q ρ 2 c) ∧ x_i M 88 c = r_off ρ c ∧ x_i M 89 c = nI (r_q ρ 3 c)) ∧
  ∀ i, i < 8 → x_i M 90 i = nI (r_q ρ 4 i)
def WF (B : Nat) (ρ : XR) : Prop :=
  (r_s ρ 0 ≤ 6 ∧ 1 ≤ r_s ρ 1 ∧ r_s ρ 1 ≤ 200 ∧ 1 ≤ r_s ρ 2 ∧ r_s ρ 2 ≤ 200 ∧ r_s ρ 3 ≤ 1000 ∧ r_s ρ 4 ≤ 99 ∧ r_s ρ 5 ≤ 8) ∧
  (∀ c, c < 6 → r_q ρ 0 c ≤ 6 ∧ r_q ρ 1 c ≤ 9 ∧ r_q ρ 2 c ≤ 200 ∧ r_q ρ 3 c ≤ B) ∧ (∀ c, c < r_s ρ 0 → r_q ρ 2 c ≤ r_s ρ 1) ∧ ∀ i, i < 8 → r_q ρ 4 i ≤ 9999
