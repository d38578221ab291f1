/-! the reference's words -/
section
variable {T : Nat → Int32} {n p : Nat}
theorem nm_d : ∀ k : Fin 7, ∀ k' : Fin 7, k ≠ k' → ∃ i : Fin 3, i.1 < nl k.1 ∧ i.1 < nl k'.1 ∧ nc k.1 i.1 ≠ nc k'.1 i.1 := by decide
theorem A_u {k k' : Nat} (hk : k < 7) (hk' : k' < 7) (hn : k ≠ k') (h : A T n p k = nl k) : A T n p k' ≤ 2 ∧ A T n p k' < nl k' := by
  obtain ⟨i, h1, h2, h3⟩ := nm_d ⟨k, hk⟩ ⟨k', hk'⟩ (fun q => hn (congrArg Fin.val q))
  have hi := i.2
  have h1 : i.1 < nl k := h1
  have h2 : i.1 < nl k' := h2
  have h3 : nc k i.1 ≠ nc k' i.1 := h3
  have : ¬ i.1 < A T n p k' := fun z => by
    have a1 := A_of z
    have a2 := A_of (T := T) (n := n) (p := p) (k := k) (i := i.1) (by omega)
    have e := a2.2.symm.trans a1.2
    have b1 := nc_b h1
    have b2 := nc_b h2
    exact h3 ((nI_eq (by omega) (by omega)).mp e)
  omega
theorem wz_7 (d : Nat) : ∀ (k m : Nat), k + d = 7 → (wz T n p d k m).1 = 7 → m ≤ (wz T n p d k m).2 ∧ (∀ j, k ≤ j → j < 7 → A T n p j ≠ nl j ∧ A T n p j ≤ (wz T n p d k m).2) ∧ ((wz T n p d k m).2 = m ∨ ∃ j, j < 7 ∧ A T n p j = (wz T n p d k m).2) := by
  induction d with
  | zero => intro k m h _; exact ⟨Nat.le_refl _, fun j h1 h2 => by omega, Or.inl rfl⟩
  | succ d ih =>
    intro k m h h7
    unfold wz at h7 ⊢
    by_cases q : A T n p k = nl k
    · rw [if_pos q] at h7
      have h7 : k = 7 := h7
      omega
    · rw [if_neg q] at h7 ⊢
      obtain ⟨a1, a2, a3⟩ := ih (k + 1) _ (by omega) h7
      generalize hx : (if m < A T n p k then A T n p k else m) = x at a1 a2 a3 ⊢
      have hmx : m ≤ x ∧ A T n p k ≤ x ∧ (x = m ∨ x = A T n p k) := by rw [← hx]; split <;> omega
      refine ⟨by omega, fun j h1 h2 => ?_, ?_⟩
      · by_cases e : j = k
        · rw [e]
          exact ⟨q, by omega⟩
        · exact a2 j (by omega) h2
      · rcases a3 with a3 | a3
        · rcases hmx.2.2 with w | w
          · exact Or.inl (a3.trans w)
          · exact Or.inr ⟨k, by omega, (a3.trans w).symm⟩
        · exact Or.inr a3
theorem wz_k {k : Nat} (hk : k < 7) (h : A T n p k = nl k) : (wz T n p 7 0 0).1 = k := by
  have hz := wz_b (T := T) (n := n) (p := p) 7 0 0 rfl
  by_cases q : (wz T n p 7 0 0).1 = 7
  · exact absurd h ((wz_7 7 0 0 rfl q).2.1 k (by omega) hk).1
  · by_cases e : k = (wz T n p 7 0 0).1
    · exact e.symm
    · have h1 := hz.2 (by omega)
      have := A_u hk (show (wz T n p 7 0 0).1 < 7 by omega) e h
      omega
/-- how far the reference gets in a word and the space behind it -/
def rc (T : Nat → Int32) (n p k : Nat) : Nat := if A T n p k = nl k then (if ok1 T n (p + nl k) 32 then nl k + 1 else nl k) else A T n p k
/-- the word's number in the reference's table -/
def kw : Nat → Nat
  | 0 => 5
  | 1 => 0
  | 2 => 1
  | 3 => 2
  | 4 => 3
  | 5 => 4
  | _ => 6
def ow : Nat → Nat
  | 0 => 0
  | 1 => 9
  | 2 => 13
  | 3 => 20
  | 4 => 26
  | 5 => 32
  | _ => 39
def mw (T : Nat → Int32) (n p : Nat) : Nat → Nat → Nat → Nat × Nat
  | 0, _, m => (7, m)
  | d + 1, w, m => if rc T n p (kw w) = nl (kw w) + 1 then (w, m) else mw T n p d (w + 1) (if m < rc T n p (kw w) then rc T n p (kw w) else m)
theorem kw_7 {w : Nat} (h : w < 7) : kw w < 7 := by
  rcases (by omega : w = 0 ∨ w = 1 ∨ w = 2 ∨ w = 3 ∨ w = 4 ∨ w = 5 ∨ w = 6) with e | e | e | e | e | e | e <;> subst e <;> decide
theorem kw_s {k : Nat} (h : k < 7) : ∃ w, w < 7 ∧ kw w = k := by
  rcases (by omega : k = 0 ∨ k = 1 ∨ k = 2 ∨ k = 3 ∨ k = 4 ∨ k = 5 ∨ k = 6) with e | e | e | e | e | e | e <;> subst e
  · exact ⟨1, by omega, rfl⟩
  · exact ⟨2, by omega, rfl⟩
  · exact ⟨3, by omega, rfl⟩
  · exact ⟨4, by omega, rfl⟩
  · exact ⟨5, by omega, rfl⟩
  · exact ⟨0, by omega, rfl⟩
  · exact ⟨6, by omega, rfl⟩
theorem rc_le {k : Nat} : rc T n p k ≤ nl k + 1 := by
  have := A_le (T := T) (n := n) (p := p) (k := k)
  unfold rc; split <;> (try split) <;> omega
theorem rc_n {k : Nat} (hp : p ≤ n) : p + rc T n p k ≤ n := by
  have h := A_n (T := T) (k := k) hp
  unfold rc
  split
  · split
    · next q => have := q.1; omega
    · omega
  · exact h
/-- no word: the furthest -/
theorem mw_7 (d : Nat) : ∀ (w m : Nat), w + d = 7 → (∀ j, w ≤ j → j < 7 → rc T n p (kw j) ≠ nl (kw j) + 1) → (mw T n p d w m).1 = 7 ∧ m ≤ (mw T n p d w m).2 ∧ (∀ j, w ≤ j → j < 7 → rc T n p (kw j) ≤ (mw T n p d w m).2) ∧ ((mw T n p d w m).2 = m ∨ ∃ j, j < 7 ∧ rc T n p (kw j) = (mw T n p d w m).2) := by
  induction d with
  | zero => intro w m h _; exact ⟨rfl, Nat.le_refl _, fun j h1 h2 => by omega, Or.inl rfl⟩
  | succ d ih =>
    intro w m h hq
    unfold mw
    have q := hq w (Nat.le_refl _) (by omega)
    rw [if_neg q]
    generalize hx : (if m < rc T n p (kw w) then rc T n p (kw w) else m) = x
    have hmx : m ≤ x ∧ rc T n p (kw w) ≤ x ∧ (x = m ∨ x = rc T n p (kw w)) := by rw [← hx]; split <;> omega
    obtain ⟨a0, a1, a2, a3⟩ := ih (w + 1) x (by omega) (fun j h1 h2 => hq j (by omega) h2)
    refine ⟨a0, by omega, fun j h1 h2 => ?_, ?_⟩
    · by_cases e : j = w
      · rw [e]; omega
      · exact a2 j (by omega) h2
    · rcases a3 with a3 | a3
      · rcases hmx.2.2 with z | z
        · exact Or.inl (a3.trans z)
        · exact Or.inr ⟨w, by omega, (a3.trans z).symm⟩
      · exact Or.inr a3
theorem mw_w (d : Nat) : ∀ (w m v : Nat), w + d = 7 → w ≤ v → v < 7 → rc T n p (kw v) = nl (kw v) + 1 → (∀ j, j < 7 → j ≠ v → rc T n p (kw j) ≠ nl (kw j) + 1) → (mw T n p d w m).1 = v := by
  induction d with
  | zero => intro w m v h h1 h2; omega
  | succ d ih =>
    intro w m v h h1 h2 hv hq
    unfold mw
    by_cases e : w = v
    · rw [e, if_pos hv]
    · rw [if_neg (hq w (by omega) e)]
      exact ih (w + 1) _ v (by omega) (by omega) h2 hv hq
/-- the reference's word against the class's -/
theorem mw_it (hp : p ≤ n) : ((wz T n p 7 0 0).1 = 7 → (mw T n p 7 0 0).1 = 7 ∧ (mw T n p 7 0 0).2 = (wz T n p 7 0 0).2) ∧
    ((wz T n p 7 0 0).1 < 7 → (ok1 T n (p + nl (wz T n p 7 0 0).1) 32 → (mw T n p 7 0 0).1 < 7 ∧ kw (mw T n p 7 0 0).1 = (wz T n p 7 0 0).1) ∧ (¬ ok1 T n (p + nl (wz T n p 7 0 0).1) 32 → (mw T n p 7 0 0).1 = 7 ∧ (mw T n p 7 0 0).2 = nl (wz T n p 7 0 0).1)) := by
  have hz := wz_b (T := T) (n := n) (p := p) 7 0 0 rfl
  refine ⟨fun h7 => ?_, fun h7 => ?_⟩
  · obtain ⟨a1, a2, a3⟩ := wz_7 (T := T) (n := n) (p := p) 7 0 0 rfl h7
    have hr : ∀ j, j < 7 → rc T n p (kw j) = A T n p (kw j) := fun j hj => if_neg (a2 (kw j) (Nat.zero_le _) (kw_7 hj)).1
    obtain ⟨b0, b1, b2, b3⟩ := mw_7 (T := T) (n := n) (p := p) 7 0 0 rfl (fun j _ hj => by
      rw [hr j hj]
      have := A_le (T := T) (n := n) (p := p) (k := kw j)
      omega)
    refine ⟨b0, Nat.le_antisymm ?_ ?_⟩
    · rcases b3 with b3 | ⟨j, hj, b3⟩
      · omega
      · rw [← b3, hr j hj]; exact (a2 (kw j) (Nat.zero_le _) (kw_7 hj)).2
    · rcases a3 with a3 | ⟨j, hj, a3⟩
      · omega
      · obtain ⟨w, hw, rfl⟩ := kw_s hj
        have := b2 w (Nat.zero_le _) hw
        rw [hr w hw] at this
        omega
  · have hA := hz.2 h7
    generalize (wz T n p 7 0 0).1 = k at h7 hA ⊢
    obtain ⟨v, hv, rfl⟩ := kw_s h7
    have ho : ∀ j, j < 7 → j ≠ v → rc T n p (kw j) ≤ 2 ∧ rc T n p (kw j) < nl (kw j) := fun j hj hn => by
      have inj : kw v ≠ kw j := fun e => by
        have : ∀ a b : Fin 7, kw a.1 = kw b.1 → a = b := by decide
        exact hn (congrArg Fin.val (this ⟨v, hv⟩ ⟨j, hj⟩ e)).symm
      obtain ⟨u1, u2⟩ := A_u h7 (kw_7 hj) inj hA
      unfold rc
      rw [if_neg (by omega)]
      exact ⟨u1, u2⟩
    refine ⟨fun ok => ?_, fun ok => ?_⟩
    · have e := mw_w (T := T) (n := n) (p := p) 7 0 0 v rfl (Nat.zero_le _) hv (by unfold rc; rw [if_pos hA, if_pos ok]) (fun j hj hn => by have := ho j hj hn; omega)
      rw [e]
      exact ⟨hv, rfl⟩
    · have hrv : rc T n p (kw v) = nl (kw v) := by unfold rc; rw [if_pos hA, if_neg ok]
      obtain ⟨b0, b1, b2, b3⟩ := mw_7 (T := T) (n := n) (p := p) 7 0 0 rfl (fun j _ hj => by
        by_cases e : j = v
        · rw [e, hrv]; omega
        · have := ho j hj e; omega)
      refine ⟨b0, Nat.le_antisymm ?_ ?_⟩
      · have h2 := nl_b (kw v)
        rcases b3 with b3 | ⟨j, hj, b3⟩
        · omega
        · by_cases e : j = v
          · rw [← b3, e, hrv]; exact Nat.le_refl _
          · have := ho j hj e; omega
      · have := b2 v (Nat.zero_le _) hv
        omega
end
