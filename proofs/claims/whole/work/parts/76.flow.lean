/-! CHANCES: the parts, what flows in a SECOND -/
def sm (f : Nat → Nat) : Nat → Nat
  | 0 => 0
  | k + 1 => sm f k + f k
theorem sm_congr {f g : Nat → Nat} (k : Nat) (h : ∀ i, i < k → f i = g i) : sm f k = sm g k := by
  induction k with
  | zero => rfl
  | succ k ih =>
    show sm f k + f k = sm g k + g k
    rw [ih (fun i hi => h i (by omega)), h k (by omega)]
theorem sm_add (f g : Nat → Nat) (k : Nat) : sm (fun i => f i + g i) k = sm f k + sm g k := by
  induction k with
  | zero => rfl
  | succ k ih =>
    show sm (fun i => f i + g i) k + (f k + g k) = sm f k + f k + (sm g k + g k)
    rw [ih]; omega
theorem sm_z {f : Nat → Nat} (k : Nat) (h : ∀ i, i < k → f i = 0) : sm f k = 0 := by
  induction k with
  | zero => rfl
  | succ k ih =>
    show sm f k + f k = 0
    rw [ih (fun i hi => h i (by omega)), h k (by omega)]
theorem sm_comm (f : Nat → Nat → Nat) (m : Nat) (k : Nat) : sm (fun x => sm (fun y => f x y) m) k = sm (fun y => sm (fun x => f x y) k) m := by
  induction k with
  | zero => exact (sm_z m (fun _ _ => rfl)).symm
  | succ k ih =>
    show sm (fun x => sm (fun y => f x y) m) k + sm (fun y => f k y) m = sm (fun y => sm (fun x => f x y) k + f k y) m
    rw [ih, sm_add]
theorem sm_le {f : Nat → Nat} {i k : Nat} (h : i < k) : f i ≤ sm f k := by
  induction k with
  | zero => omega
  | succ k ih =>
    show f i ≤ sm f k + f k
    by_cases q : i = k
    · rw [q]; omega
    · have := ih (by omega); omega
theorem sm_one {v i0 : Nat} (k : Nat) (h : i0 < k) : sm (fun i => if i = i0 then v else 0) k = v := by
  induction k with
  | zero => omega
  | succ k ih =>
    show sm (fun i => if i = i0 then v else 0) k + (if k = i0 then v else 0) = v
    by_cases q : k = i0
    · rw [if_pos q, sm_z k (fun i hi => if_neg (by omega))]; omega
    · rw [if_neg q, ih (by omega)]; omega
theorem sm_two {v y0 g0 : Nat} {n T : Nat} (hy : y0 < n) (hg : g0 < T) : sm (fun y => sm (fun g => if y = y0 ∧ g = g0 then v else 0) T) n = v := by
  rw [sm_congr (g := fun y => if y = y0 then v else 0) n (fun y _ => by
    by_cases q : y = y0
    · rw [if_pos q, sm_congr (g := fun g => if g = g0 then v else 0) T (fun g _ => by
        by_cases z : g = g0
        · rw [if_pos ⟨q, z⟩, if_pos z]
        · rw [if_neg (fun w => z w.2), if_neg z]), sm_one T hg]
    · rw [if_neg q, sm_z T (fun g _ => if_neg (fun w => q w.1))]), sm_one n hy]
theorem sm_ext {f : Nat → Nat} {i k : Nat} (h : i ≤ k) (hz : ∀ j, i ≤ j → j < k → f j = 0) : sm f k = sm f i := by
  induction k with
  | zero => rw [show i = 0 by omega]
  | succ k ih =>
    by_cases q : i = k + 1
    · rw [q]
    · show sm f k + f k = sm f i
      rw [ih (by omega) (fun j h1 h2 => hz j h1 (by omega)), hz k (by omega) (by omega)]
      omega
def br (o v : Nat) : Nat := v * o / 1000
theorem br_le {o v : Nat} (ho : o ≤ 1000) : br o v ≤ v := by
  unfold br
  have h1 : v * o ≤ v * 1000 := Nat.mul_le_mul_left v ho
  omega
def ct (o p kd a : Nat) (P : Nat → Nat → Nat) (x h y g : Nat) : Nat :=
  (if y = lf p kd a x (h + 1) ∧ g = (h + 1) % tn kd a then br o (P x h) else 0) + (if y = x + 1 ∧ g = h then P x h - br o (P x h) else 0)
theorem ct_0 {o p kd a x h y g : Nat} {P : Nat → Nat → Nat} (hz : P x h = 0) : ct o p kd a P x h y g = 0 := by
  unfold ct br
  rw [hz]
  simp
def cn (o n : Nat) (P : Nat → Nat → Nat) (x h : Nat) : Nat := if x + 1 = n then P x h - br o (P x h) else 0
theorem cn_0 {o n x h : Nat} {P : Nat → Nat → Nat} (hz : P x h = 0) : cn o n P x h = 0 := by
  unfold cn br
  rw [hz]
  simp
def fl (o n p kd a : Nat) (P : Nat → Nat → Nat) (y g : Nat) : Nat := sm (fun x => sm (fun h => ct o p kd a P x h y g) (tn kd a)) n
def fn (o n kd a : Nat) (P : Nat → Nat → Nat) : Nat := sm (fun x => sm (fun h => cn o n P x h) (tn kd a)) n
/-- the parts below N, and those through, behind so many SECONDS -/
def fk (o n p kd a x0 hd : Nat) : Nat → (Nat → Nat → Nat) × Nat
  | 0 => (fun x h => if x = x0 ∧ h = hd % tn kd a ∧ x < n then 1000000 else 0, if n ≤ x0 then 1000000 else 0)
  | k + 1 => (fun y g => fl o n p kd a (fk o n p kd a x0 hd k).1 y g, (fk o n p kd a x0 hd k).2 + fn o n kd a (fk o n p kd a x0 hd k).1)
def ms (n T : Nat) (P : Nat → Nat → Nat) : Nat := sm (fun x => sm (fun h => P x h) T) n
theorem fl_n {o n p kd a : Nat} {P : Nat → Nat → Nat} : sm (fun g => fl o n p kd a P n g) (tn kd a) = fn o n kd a P := by
  unfold fl fn
  rw [sm_comm (fun g x => sm (fun h => ct o p kd a P x h n g) (tn kd a))]
  refine sm_congr n (fun x hx => ?_)
  rw [sm_comm (fun g h => ct o p kd a P x h n g)]
  refine sm_congr _ (fun h hh => ?_)
  have hl := lf_le p kd a x (h + 1)
  unfold cn
  rw [sm_congr (g := fun g => if g = h then (if x + 1 = n then P x h - br o (P x h) else 0) else 0) _ (fun g _ => by
    unfold ct
    rw [if_neg (by omega), Nat.zero_add]
    by_cases q : g = h
    · rw [if_pos q]
      by_cases z : x + 1 = n
      · rw [if_pos z, if_pos ⟨z.symm, q⟩]
      · rw [if_neg z, if_neg (fun w => z w.1.symm)]
    · rw [if_neg q, if_neg (fun w => q w.2)]), sm_one _ hh]
theorem ms_fl {o n p kd a : Nat} {P : Nat → Nat → Nat} (ho : o ≤ 1000) (ha : a ≤ 9) : ms n (tn kd a) (fl o n p kd a P) + fn o n kd a P = ms n (tn kd a) P := by
  have hT := tn_b (kd := kd) ha
  rw [← fl_n (p := p)]
  show sm (fun y => sm (fun g => fl o n p kd a P y g) (tn kd a)) (n + 1) = _
  unfold fl
  rw [sm_congr (g := fun y => sm (fun x => sm (fun g => sm (fun h => ct o p kd a P x h y g) (tn kd a)) (tn kd a)) n) _ (fun y _ => sm_comm (fun g x => sm (fun h => ct o p kd a P x h y g) (tn kd a)) n (tn kd a))]
  rw [sm_comm (fun y x => sm (fun g => sm (fun h => ct o p kd a P x h y g) (tn kd a)) (tn kd a))]
  unfold ms
  refine sm_congr n (fun x hx => ?_)
  rw [sm_congr (g := fun y => sm (fun h => sm (fun g => ct o p kd a P x h y g) (tn kd a)) (tn kd a)) _ (fun y _ => sm_comm (fun g h => ct o p kd a P x h y g) (tn kd a) (tn kd a))]
  rw [sm_comm (fun y h => sm (fun g => ct o p kd a P x h y g) (tn kd a))]
  refine sm_congr _ (fun h hh => ?_)
  have hl := lf_le p kd a x (h + 1)
  have hb := br_le (v := P x h) ho
  have hm := Nat.mod_lt (h + 1) (show tn kd a > 0 by omega)
  have e : ∀ y, sm (fun g => ct o p kd a P x h y g) (tn kd a) = sm (fun g => if y = lf p kd a x (h + 1) ∧ g = (h + 1) % tn kd a then br o (P x h) else 0) (tn kd a) + sm (fun g => if y = x + 1 ∧ g = h then P x h - br o (P x h) else 0) (tn kd a) := fun y => sm_add (fun g => if y = lf p kd a x (h + 1) ∧ g = (h + 1) % tn kd a then br o (P x h) else 0) (fun g => if y = x + 1 ∧ g = h then P x h - br o (P x h) else 0) (tn kd a)
  rw [sm_congr _ (fun y _ => e y), sm_add, sm_two (by omega) hm, sm_two (by omega) hh]
  omega
theorem fk_ms {o n p kd a x0 hd : Nat} (ho : o ≤ 1000) (ha : a ≤ 9) (hx : x0 ≤ n) (k : Nat) : ms n (tn kd a) (fk o n p kd a x0 hd k).1 + (fk o n p kd a x0 hd k).2 = 1000000 := by
  have hT := tn_b (kd := kd) ha
  induction k with
  | zero =>
    show ms n (tn kd a) (fun x h => if x = x0 ∧ h = hd % tn kd a ∧ x < n then 1000000 else 0) + (if n ≤ x0 then 1000000 else 0) = 1000000
    have hm := Nat.mod_lt hd (show tn kd a > 0 by omega)
    unfold ms
    by_cases q : n ≤ x0
    · rw [if_pos q, sm_z n (fun x h => sm_z _ (fun g _ => if_neg (by omega)))]
    · rw [if_neg q, sm_congr (g := fun x => sm (fun h => if x = x0 ∧ h = hd % tn kd a then 1000000 else 0) (tn kd a)) n (fun x h => sm_congr _ (fun g _ => by
        dsimp only
        by_cases z : x = x0 ∧ g = hd % tn kd a
        · rw [if_pos z, if_pos ⟨z.1, z.2, h⟩]
        · rw [if_neg z, if_neg (fun w => z ⟨w.1, w.2.1⟩)])), sm_two (by omega) hm]
  | succ k ih =>
    show ms n (tn kd a) (fl o n p kd a (fk o n p kd a x0 hd k).1) + ((fk o n p kd a x0 hd k).2 + fn o n kd a (fk o n p kd a x0 hd k).1) = 1000000
    have := ms_fl (o := o) (n := n) (p := p) (kd := kd) (a := a) (P := (fk o n p kd a x0 hd k).1) ho ha
    omega
theorem fk_le {o n p kd a x0 hd k x h : Nat} (ho : o ≤ 1000) (ha : a ≤ 9) (hx0 : x0 ≤ n) (hx : x < n) (hh : h < tn kd a) : (fk o n p kd a x0 hd k).1 x h ≤ 1000000 := by
  have h1 := fk_ms (p := p) (kd := kd) (hd := hd) ho ha hx0 k
  have h2 : (fk o n p kd a x0 hd k).1 x h ≤ sm (fun h => (fk o n p kd a x0 hd k).1 x h) (tn kd a) := sm_le (f := fun h => (fk o n p kd a x0 hd k).1 x h) hh
  have h3 : sm (fun h => (fk o n p kd a x0 hd k).1 x h) (tn kd a) ≤ ms n (tn kd a) (fk o n p kd a x0 hd k).1 := sm_le (f := fun x => sm (fun h => (fk o n p kd a x0 hd k).1 x h) (tn kd a)) hx
  omega
theorem fk_A {o n p kd a x0 hd k : Nat} (ho : o ≤ 1000) (ha : a ≤ 9) (hx0 : x0 ≤ n) : (fk o n p kd a x0 hd k).2 ≤ 1000000 := by
  have h1 := fk_ms (p := p) (kd := kd) (hd := hd) ho ha hx0 k
  omega
/-- by columns as by rows -/
theorem fl_c {o n p kd a y g : Nat} {P : Nat → Nat → Nat} : fl o n p kd a P y g = sm (fun h => sm (fun x => ct o p kd a P x h y g) n) (tn kd a) := sm_comm (fun x h => ct o p kd a P x h y g) (tn kd a) n
theorem fn_c {o n kd a : Nat} {P : Nat → Nat → Nat} : fn o n kd a P = sm (fun h => sm (fun x => cn o n P x h) n) (tn kd a) := sm_comm (fun x h => cn o n P x h) (tn kd a) n
