/-! THE START'S MEMORY: what both constructors leave -/
def M00 (L : Nat) (xs : Nat → Int32) : XM := (x_sh0 L, x_roI xs, fun _ _ => 0, fun _ _ => 0)
def asI : List (Nat × Nat × Int32) → Nat → Nat → Int32 → Int32
  | [], _, _, z => z
  | q :: l, a, k, z => if a = q.1 ∧ k = q.2.1 then q.2.2 else asI l a k z
def asR : List (Nat × Nat × Nat) → Nat → Nat → Nat
  | [], _, _ => 0
  | q :: l, a, k => if a = q.1 ∧ k = q.2.1 then q.2.2 else asR l a k
theorem asI_no {l : List (Nat × Nat × Int32)} {a k : Nat} {z : Int32} (h : l.all (fun q => q.1 != a) = true) : asI l a k z = z := by
  induction l with
  | nil => rfl
  | cons q l ih =>
    simp only [List.all_cons, Bool.and_eq_true, bne_iff_ne, ne_eq] at h
    show (if a = q.1 ∧ k = q.2.1 then q.2.2 else asI l a k z) = z
    rw [if_neg (fun e => h.1 e.1.symm)]
    exact ih h.2
theorem asR_no {l : List (Nat × Nat × Nat)} {a k : Nat} (h : l.all (fun q => q.1 != a) = true) : asR l a k = 0 := by
  induction l with
  | nil => rfl
  | cons q l ih =>
    simp only [List.all_cons, Bool.and_eq_true, bne_iff_ne, ne_eq] at h
    show (if a = q.1 ∧ k = q.2.1 then q.2.2 else asR l a k) = 0
    rw [if_neg (fun e => h.1 e.1.symm)]
    exact ih h.2
theorem asI_lo {l : List (Nat × Nat × Int32)} {a k : Nat} {z : Int32} (h : l.all (fun q => Nat.ble 20 q.1) = true) (ha : a < 20) : asI l a k z = z := by
  induction l with
  | nil => rfl
  | cons q l ih =>
    simp only [List.all_cons, Bool.and_eq_true] at h
    have h1 := Nat.le_of_ble_eq_true h.1
    show (if a = q.1 ∧ k = q.2.1 then q.2.2 else asI l a k z) = z
    rw [if_neg (fun e => by omega)]
    exact ih h.2
theorem asR_nk {l : List (Nat × Nat × Nat)} {a k : Nat} (h : ∀ q ∈ l, ¬ (a = q.1 ∧ k = q.2.1)) : asR l a k = 0 := by
  induction l with
  | nil => rfl
  | cons q l ih =>
    show (if a = q.1 ∧ k = q.2.1 then q.2.2 else asR l a k) = 0
    rw [if_neg (h q List.mem_cons_self)]
    exact ih (fun q' h' => h q' (List.mem_cons_of_mem _ h'))
theorem ro_0 (xs : Nat → Int32) (a k : Nat) (h : 19 ≤ a) : x_roI xs a k = 0 := by
  obtain ⟨n, rfl⟩ : ∃ n, a = n + 5 := ⟨a - 5, by omega⟩
  show (if n < 7 then 0 else (x_byt.getD (n - 7) []).getD k 0) = 0
  have hl : x_byt.length ≤ n - 7 := by show 7 ≤ n - 7; omega
  have e : x_byt.getD (n - 7) [] = [] := by rw [List.getD_eq_getElem?_getD, List.getElem?_eq_none hl]; rfl
  rw [if_neg (by omega), e]
  rfl
def Bld (L : Nat) (b : Nat → Nat → Int32) (n : Nat) (sh : List (Nat × Nat)) (ri : List (Nat × Nat × Int32)) (rr : List (Nat × Nat × Nat)) (M : XM) : Prop := x_n M = n ∧ M.1 = x_sh0 L ++ sh.reverse ∧ (∀ a k, x_i M a k = asI ri a k (b a k)) ∧ ∀ a k, x_r M a k = asR rr a k
section
variable {L n a k w t m : Nat} {v : Int32} {b : Nat → Nat → Int32} {sh : List (Nat × Nat)} {ri : List (Nat × Nat × Int32)} {rr : List (Nat × Nat × Nat)} {M : XM}
theorem Bld.wi (h : Bld L b n sh ri rr M) : Bld L b n sh ((a, k, v) :: ri) rr (x_wi M a k v) := by
  obtain ⟨h1, h2, h3, h4⟩ := h
  refine ⟨h1, h2, fun c j => ?_, h4⟩
  show (if c = a ∧ j = k then v else x_i M c j) = (if c = a ∧ j = k then v else asI ri c j (b c j))
  rw [h3]
theorem Bld.wr (h : Bld L b n sh ri rr M) : Bld L b n sh ri ((a, k, w) :: rr) (x_wr M a k w) := by
  obtain ⟨h1, h2, h3, h4⟩ := h
  refine ⟨h1, h2, h3, fun c j => ?_⟩
  show (if c = a ∧ j = k then w else x_r M c j) = (if c = a ∧ j = k then w else asR rr c j)
  rw [h4]
theorem Bld.new (h : Bld L b n sh ri rr M) (h0 : ∀ k, b n k = 0) (hi : ri.all (fun q => q.1 != n) = true) (hr : rr.all (fun q => q.1 != n) = true) : Bld L b (n + 1) ((t, m) :: sh) ri rr (x_new M t m) := by
  obtain ⟨h1, h2, h3, h4⟩ := h
  refine ⟨by rw [nn_new, h1], ?_, fun c j => ?_, fun c j => ?_⟩
  · show M.1 ++ [(t, m)] = _
    rw [h2, List.reverse_cons, List.append_assoc]
  · show (if c = x_n M then 0 else x_i M c j) = asI ri c j (b c j)
    rw [h1]
    by_cases e : c = n
    · rw [if_pos e, e, asI_no hi, h0]
    · rw [if_neg e, h3]
  · show (if c = x_n M then 0 else x_r M c j) = asR rr c j
    rw [h1]
    by_cases e : c = n
    · rw [if_pos e, e, asR_no hr]
    · rw [if_neg e, h4]
end
def SH8 : List (Nat × Nat) := [(2, 160), (16, 0), (2, 160), (16, 0), (2, 160), (16, 0), (2, 160), (16, 0), (2, 160), (16, 0), (2, 160), (16, 0), (2, 160), (16, 0), (2, 160), (16, 0), (1, 20), (10, 0), (1, 201), (1, 201), (12, 0), (1, 201), (1, 201), (13, 0), (1, 2000), (1, 2000), (1, 2000), (11, 0), (1, 40), (12, 0), (17, 0), (1, 8), (4, 8), (1, 160), (12, 0), (12, 0), (12, 0), (12, 0), (12, 0), (12, 0), (1, 8), (3, 6), (14, 0), (15, 0), (12, 0), (12, 0), (12, 0), (12, 0), (12, 0), (12, 0), (1, 8), (3, 6), (14, 0), (12, 0), (12, 0), (12, 0), (12, 0), (12, 0), (12, 0), (1, 8), (3, 6), (14, 0), (18, 0)]
def RI8 : List (Nat × Nat × Int32) := [(81, 1, nM 1), (81, 0, nM 1), (79, 1, nM 1), (79, 0, nM 1), (77, 1, nM 1), (77, 0, nM 1), (75, 1, nM 1), (75, 0, nM 1), (73, 1, nM 1), (73, 0, nM 1), (71, 1, nM 1), (71, 0, nM 1), (69, 1, nM 1), (69, 0, nM 1), (67, 1, nM 1), (67, 0, nM 1), (20, 4, nM 1), (40, 9, nI 1), (40, 5, nI 1), (40, 4, nI 100), (40, 3, nI 5), (40, 2, nI 20), (39, 0, nM 1), (30, 9, nI 1), (30, 5, nI 1), (30, 4, nI 100), (30, 3, nI 5), (30, 2, nI 20), (21, 9, nI 1), (21, 5, nI 1), (21, 4, nI 100), (21, 3, nI 5), (21, 2, nI 20)]
def RR8 : List (Nat × Nat × Nat) := [(50, 7, 81), (81, 3, 82), (50, 6, 79), (79, 3, 80), (50, 5, 77), (77, 3, 78), (50, 4, 75), (75, 3, 76), (50, 3, 73), (73, 3, 74), (50, 2, 71), (71, 3, 72), (50, 1, 69), (69, 3, 70), (50, 0, 67), (67, 3, 68), (20, 13, 65), (65, 1, 66), (20, 12, 64), (20, 11, 63), (20, 10, 62), (20, 9, 59), (59, 1, 61), (59, 0, 60), (20, 8, 55), (55, 2, 58), (55, 1, 57), (55, 0, 56), (20, 7, 52), (52, 1, 54), (52, 0, 53), (20, 6, 51), (20, 5, 50), (20, 3, 39), (39, 2, 49), (39, 1, 40), (41, 5, 48), (41, 4, 47), (41, 3, 46), (41, 2, 45), (41, 1, 44), (41, 0, 43), (40, 6, 42), (40, 0, 41), (20, 1, 30), (31, 5, 38), (31, 4, 37), (31, 3, 36), (31, 2, 35), (31, 1, 34), (31, 0, 33), (30, 6, 32), (30, 0, 31), (20, 0, 21), (22, 5, 29), (22, 4, 28), (22, 3, 27), (22, 2, 26), (22, 1, 25), (22, 0, 24), (21, 6, 23), (21, 0, 22)]
def SH9 : List (Nat × Nat) := [(1, 20), (1, 402), (1, 2010), (1, 2010), (1, 50), (1, 50), (1, 2), (1, 44), (2, 160), (2, 1280), (1, 8), (1, 8), (1, 8), (1, 8), (1, 8), (1, 6), (1, 6), (1, 6), (1, 6), (1, 6), (1, 8), (19, 0), (2, 160), (16, 0), (2, 160), (16, 0), (2, 160), (16, 0), (2, 160), (16, 0), (2, 160), (16, 0), (2, 160), (16, 0), (2, 160), (16, 0), (2, 160), (16, 0), (1, 20), (10, 0), (1, 201), (1, 201), (12, 0), (1, 201), (1, 201), (13, 0), (1, 2000), (1, 2000), (1, 2000), (11, 0), (1, 40), (12, 0), (17, 0), (1, 8), (4, 8), (1, 160), (12, 0), (12, 0), (12, 0), (12, 0), (12, 0), (12, 0), (1, 8), (3, 6), (14, 0), (15, 0), (12, 0), (12, 0), (12, 0), (12, 0), (12, 0), (12, 0), (1, 8), (3, 6), (14, 0), (12, 0), (12, 0), (12, 0), (12, 0), (12, 0), (12, 0), (1, 8), (3, 6), (14, 0), (18, 0)]
def RI9 : List (Nat × Nat × Int32) := [(97, 43, nI 0), (97, 42, nI 32), (97, 41, nI 107), (97, 40, nI 115), (97, 39, nI 97), (97, 38, nI 0), (97, 37, nI 32), (97, 36, nI 121), (97, 35, nI 108), (97, 34, nI 108), (97, 33, nI 97), (97, 32, nI 116), (97, 31, nI 0), (97, 30, nI 32), (97, 29, nI 116), (97, 28, nI 115), (97, 27, nI 111), (97, 26, nI 99), (97, 25, nI 0), (97, 24, nI 32), (97, 23, nI 115), (97, 22, nI 100), (97, 21, nI 100), (97, 20, nI 111), (97, 19, nI 0), (97, 18, nI 32), (97, 17, nI 116), (97, 16, nI 114), (97, 15, nI 97), (97, 14, nI 112), (97, 13, nI 97), (97, 12, nI 0), (97, 11, nI 32), (97, 10, nI 111), (97, 9, nI 116), (97, 8, nI 0), (97, 7, nI 32), (97, 6, nI 114), (97, 5, nI 101), (97, 4, nI 116), (97, 3, nI 110), (97, 2, nI 117), (97, 1, nI 111), (97, 0, nI 99), (83, 8, nM 1), (83, 7, nI 1), (83, 4, nI 1), (83, 3, nI 100), (83, 2, nI 5), (83, 1, nI 20), (81, 1, nM 1), (81, 0, nM 1), (79, 1, nM 1), (79, 0, nM 1), (77, 1, nM 1), (77, 0, nM 1), (75, 1, nM 1), (75, 0, nM 1), (73, 1, nM 1), (73, 0, nM 1), (71, 1, nM 1), (71, 0, nM 1), (69, 1, nM 1), (69, 0, nM 1), (67, 1, nM 1), (67, 0, nM 1), (20, 4, nM 1), (40, 9, nI 1), (40, 5, nI 1), (40, 4, nI 100), (40, 3, nI 5), (40, 2, nI 20), (39, 0, nM 1), (30, 9, nI 1), (30, 5, nI 1), (30, 4, nI 100), (30, 3, nI 5), (30, 2, nI 20), (21, 9, nI 1), (21, 5, nI 1), (21, 4, nI 100), (21, 3, nI 5), (21, 2, nI 20)]
def RR9 : List (Nat × Nat × Nat) := [(83, 39, 104), (83, 38, 103), (83, 36, 102), (83, 35, 101), (83, 30, 100), (83, 29, 99), (83, 23, 98), (83, 22, 97), (83, 21, 96), (83, 20, 95), (83, 19, 94), (83, 18, 93), (83, 17, 92), (83, 16, 91), (83, 15, 90), (83, 14, 89), (83, 13, 88), (83, 12, 87), (83, 11, 86), (83, 10, 85), (83, 9, 84), (50, 7, 81), (81, 3, 82), (50, 6, 79), (79, 3, 80), (50, 5, 77), (77, 3, 78), (50, 4, 75), (75, 3, 76), (50, 3, 73), (73, 3, 74), (50, 2, 71), (71, 3, 72), (50, 1, 69), (69, 3, 70), (50, 0, 67), (67, 3, 68), (20, 13, 65), (65, 1, 66), (20, 12, 64), (20, 11, 63), (20, 10, 62), (20, 9, 59), (59, 1, 61), (59, 0, 60), (20, 8, 55), (55, 2, 58), (55, 1, 57), (55, 0, 56), (20, 7, 52), (52, 1, 54), (52, 0, 53), (20, 6, 51), (20, 5, 50), (20, 3, 39), (39, 2, 49), (39, 1, 40), (41, 5, 48), (41, 4, 47), (41, 3, 46), (41, 2, 45), (41, 1, 44), (41, 0, 43), (40, 6, 42), (40, 0, 41), (20, 1, 30), (31, 5, 38), (31, 4, 37), (31, 3, 36), (31, 2, 35), (31, 1, 34), (31, 0, 33), (30, 6, 32), (30, 0, 31), (20, 0, 21), (22, 5, 29), (22, 4, 28), (22, 3, 27), (22, 2, 26), (22, 1, 25), (22, 0, 24), (21, 6, 23), (21, 0, 22)]
section
variable {L : Nat} {xs : Nat → Int32} {M1 M2 M3 : XM}
set_option maxRecDepth 20000 in
set_option maxHeartbeats 4000000 in
theorem b_8 (h1 : M1 = X4 21 (x_new (x_new (M00 L xs) 18 0) 14 0)) (h2 : M2 = X4 30 (x_new (x_wr M1 20 0 21) 14 0)) (h3 : M3 = X4 40 (x_new (x_wi (x_new (x_wr M2 20 1 30) 15 0) 39 0 (nM 1)) 14 0)) : Bld L (x_roI xs) 83 SH8 RI8 RR8 (X8 M3) := by
  unfold SH8 RI8 RR8
  unfold X8
  refine Bld.wr ?_
  refine Bld.wr ?_
  refine Bld.new ?_ (fun k => ro_0 xs _ k (Nat.le_of_ble_eq_true rfl)) (by decide +kernel) (by decide +kernel)
  refine Bld.wi ?_
  refine Bld.wi ?_
  refine Bld.new ?_ (fun k => ro_0 xs _ k (Nat.le_of_ble_eq_true rfl)) (by decide +kernel) (by decide +kernel)
  refine Bld.wr ?_
  refine Bld.wr ?_
  refine Bld.new ?_ (fun k => ro_0 xs _ k (Nat.le_of_ble_eq_true rfl)) (by decide +kernel) (by decide +kernel)
  refine Bld.wi ?_
  refine Bld.wi ?_
  refine Bld.new ?_ (fun k => ro_0 xs _ k (Nat.le_of_ble_eq_true rfl)) (by decide +kernel) (by decide +kernel)
  refine Bld.wr ?_
  refine Bld.wr ?_
  refine Bld.new ?_ (fun k => ro_0 xs _ k (Nat.le_of_ble_eq_true rfl)) (by decide +kernel) (by decide +kernel)
  refine Bld.wi ?_
  refine Bld.wi ?_
  refine Bld.new ?_ (fun k => ro_0 xs _ k (Nat.le_of_ble_eq_true rfl)) (by decide +kernel) (by decide +kernel)
  refine Bld.wr ?_
  refine Bld.wr ?_
  refine Bld.new ?_ (fun k => ro_0 xs _ k (Nat.le_of_ble_eq_true rfl)) (by decide +kernel) (by decide +kernel)
  refine Bld.wi ?_
  refine Bld.wi ?_
  refine Bld.new ?_ (fun k => ro_0 xs _ k (Nat.le_of_ble_eq_true rfl)) (by decide +kernel) (by decide +kernel)
  refine Bld.wr ?_
  refine Bld.wr ?_
  refine Bld.new ?_ (fun k => ro_0 xs _ k (Nat.le_of_ble_eq_true rfl)) (by decide +kernel) (by decide +kernel)
  refine Bld.wi ?_
  refine Bld.wi ?_
  refine Bld.new ?_ (fun k => ro_0 xs _ k (Nat.le_of_ble_eq_true rfl)) (by decide +kernel) (by decide +kernel)
  refine Bld.wr ?_
  refine Bld.wr ?_
  refine Bld.new ?_ (fun k => ro_0 xs _ k (Nat.le_of_ble_eq_true rfl)) (by decide +kernel) (by decide +kernel)
  refine Bld.wi ?_
  refine Bld.wi ?_
  refine Bld.new ?_ (fun k => ro_0 xs _ k (Nat.le_of_ble_eq_true rfl)) (by decide +kernel) (by decide +kernel)
  refine Bld.wr ?_
  refine Bld.wr ?_
  refine Bld.new ?_ (fun k => ro_0 xs _ k (Nat.le_of_ble_eq_true rfl)) (by decide +kernel) (by decide +kernel)
  refine Bld.wi ?_
  refine Bld.wi ?_
  refine Bld.new ?_ (fun k => ro_0 xs _ k (Nat.le_of_ble_eq_true rfl)) (by decide +kernel) (by decide +kernel)
  refine Bld.wr ?_
  refine Bld.wr ?_
  refine Bld.new ?_ (fun k => ro_0 xs _ k (Nat.le_of_ble_eq_true rfl)) (by decide +kernel) (by decide +kernel)
  refine Bld.wi ?_
  refine Bld.wi ?_
  refine Bld.new ?_ (fun k => ro_0 xs _ k (Nat.le_of_ble_eq_true rfl)) (by decide +kernel) (by decide +kernel)
  refine Bld.wr ?_
  refine Bld.wr ?_
  refine Bld.new ?_ (fun k => ro_0 xs _ k (Nat.le_of_ble_eq_true rfl)) (by decide +kernel) (by decide +kernel)
  refine Bld.new ?_ (fun k => ro_0 xs _ k (Nat.le_of_ble_eq_true rfl)) (by decide +kernel) (by decide +kernel)
  refine Bld.wr ?_
  refine Bld.new ?_ (fun k => ro_0 xs _ k (Nat.le_of_ble_eq_true rfl)) (by decide +kernel) (by decide +kernel)
  refine Bld.wr ?_
  refine Bld.new ?_ (fun k => ro_0 xs _ k (Nat.le_of_ble_eq_true rfl)) (by decide +kernel) (by decide +kernel)
  refine Bld.wr ?_
  refine Bld.new ?_ (fun k => ro_0 xs _ k (Nat.le_of_ble_eq_true rfl)) (by decide +kernel) (by decide +kernel)
  refine Bld.wr ?_
  refine Bld.wr ?_
  refine Bld.new ?_ (fun k => ro_0 xs _ k (Nat.le_of_ble_eq_true rfl)) (by decide +kernel) (by decide +kernel)
  refine Bld.wr ?_
  refine Bld.new ?_ (fun k => ro_0 xs _ k (Nat.le_of_ble_eq_true rfl)) (by decide +kernel) (by decide +kernel)
  refine Bld.new ?_ (fun k => ro_0 xs _ k (Nat.le_of_ble_eq_true rfl)) (by decide +kernel) (by decide +kernel)
  refine Bld.wr ?_
  refine Bld.wr ?_
  refine Bld.new ?_ (fun k => ro_0 xs _ k (Nat.le_of_ble_eq_true rfl)) (by decide +kernel) (by decide +kernel)
  refine Bld.wr ?_
  refine Bld.new ?_ (fun k => ro_0 xs _ k (Nat.le_of_ble_eq_true rfl)) (by decide +kernel) (by decide +kernel)
  refine Bld.wr ?_
  refine Bld.new ?_ (fun k => ro_0 xs _ k (Nat.le_of_ble_eq_true rfl)) (by decide +kernel) (by decide +kernel)
  refine Bld.new ?_ (fun k => ro_0 xs _ k (Nat.le_of_ble_eq_true rfl)) (by decide +kernel) (by decide +kernel)
  refine Bld.wr ?_
  refine Bld.wr ?_
  refine Bld.new ?_ (fun k => ro_0 xs _ k (Nat.le_of_ble_eq_true rfl)) (by decide +kernel) (by decide +kernel)
  refine Bld.wr ?_
  refine Bld.new ?_ (fun k => ro_0 xs _ k (Nat.le_of_ble_eq_true rfl)) (by decide +kernel) (by decide +kernel)
  refine Bld.new ?_ (fun k => ro_0 xs _ k (Nat.le_of_ble_eq_true rfl)) (by decide +kernel) (by decide +kernel)
  refine Bld.wr ?_
  refine Bld.new ?_ (fun k => ro_0 xs _ k (Nat.le_of_ble_eq_true rfl)) (by decide +kernel) (by decide +kernel)
  refine Bld.wr ?_
  refine Bld.new ?_ (fun k => ro_0 xs _ k (Nat.le_of_ble_eq_true rfl)) (by decide +kernel) (by decide +kernel)
  refine Bld.wi ?_
  refine Bld.wr ?_
  refine Bld.wr ?_
  refine Bld.new ?_ (fun k => ro_0 xs _ k (Nat.le_of_ble_eq_true rfl)) (by decide +kernel) (by decide +kernel)
  refine Bld.wr ?_
  rw [h3]
  unfold X4
  refine Bld.wr ?_
  refine Bld.new ?_ (fun k => ro_0 xs _ k (Nat.le_of_ble_eq_true rfl)) (by decide +kernel) (by decide +kernel)
  refine Bld.wr ?_
  refine Bld.new ?_ (fun k => ro_0 xs _ k (Nat.le_of_ble_eq_true rfl)) (by decide +kernel) (by decide +kernel)
  refine Bld.wr ?_
  refine Bld.new ?_ (fun k => ro_0 xs _ k (Nat.le_of_ble_eq_true rfl)) (by decide +kernel) (by decide +kernel)
  refine Bld.wr ?_
  refine Bld.new ?_ (fun k => ro_0 xs _ k (Nat.le_of_ble_eq_true rfl)) (by decide +kernel) (by decide +kernel)
  refine Bld.wr ?_
  refine Bld.new ?_ (fun k => ro_0 xs _ k (Nat.le_of_ble_eq_true rfl)) (by decide +kernel) (by decide +kernel)
  refine Bld.wr ?_
  refine Bld.new ?_ (fun k => ro_0 xs _ k (Nat.le_of_ble_eq_true rfl)) (by decide +kernel) (by decide +kernel)
  refine Bld.wi ?_
  refine Bld.wr ?_
  refine Bld.new ?_ (fun k => ro_0 xs _ k (Nat.le_of_ble_eq_true rfl)) (by decide +kernel) (by decide +kernel)
  refine Bld.wi ?_
  refine Bld.wi ?_
  refine Bld.wi ?_
  refine Bld.wi ?_
  refine Bld.wr ?_
  refine Bld.new ?_ (fun k => ro_0 xs _ k (Nat.le_of_ble_eq_true rfl)) (by decide +kernel) (by decide +kernel)
  refine Bld.new ?_ (fun k => ro_0 xs _ k (Nat.le_of_ble_eq_true rfl)) (by decide +kernel) (by decide +kernel)
  refine Bld.wi ?_
  refine Bld.new ?_ (fun k => ro_0 xs _ k (Nat.le_of_ble_eq_true rfl)) (by decide +kernel) (by decide +kernel)
  refine Bld.wr ?_
  rw [h2]
  unfold X4
  refine Bld.wr ?_
  refine Bld.new ?_ (fun k => ro_0 xs _ k (Nat.le_of_ble_eq_true rfl)) (by decide +kernel) (by decide +kernel)
  refine Bld.wr ?_
  refine Bld.new ?_ (fun k => ro_0 xs _ k (Nat.le_of_ble_eq_true rfl)) (by decide +kernel) (by decide +kernel)
  refine Bld.wr ?_
  refine Bld.new ?_ (fun k => ro_0 xs _ k (Nat.le_of_ble_eq_true rfl)) (by decide +kernel) (by decide +kernel)
  refine Bld.wr ?_
  refine Bld.new ?_ (fun k => ro_0 xs _ k (Nat.le_of_ble_eq_true rfl)) (by decide +kernel) (by decide +kernel)
  refine Bld.wr ?_
  refine Bld.new ?_ (fun k => ro_0 xs _ k (Nat.le_of_ble_eq_true rfl)) (by decide +kernel) (by decide +kernel)
  refine Bld.wr ?_
  refine Bld.new ?_ (fun k => ro_0 xs _ k (Nat.le_of_ble_eq_true rfl)) (by decide +kernel) (by decide +kernel)
  refine Bld.wi ?_
  refine Bld.wr ?_
  refine Bld.new ?_ (fun k => ro_0 xs _ k (Nat.le_of_ble_eq_true rfl)) (by decide +kernel) (by decide +kernel)
  refine Bld.wi ?_
  refine Bld.wi ?_
  refine Bld.wi ?_
  refine Bld.wi ?_
  refine Bld.wr ?_
  refine Bld.new ?_ (fun k => ro_0 xs _ k (Nat.le_of_ble_eq_true rfl)) (by decide +kernel) (by decide +kernel)
  refine Bld.new ?_ (fun k => ro_0 xs _ k (Nat.le_of_ble_eq_true rfl)) (by decide +kernel) (by decide +kernel)
  refine Bld.wr ?_
  rw [h1]
  unfold X4
  refine Bld.wr ?_
  refine Bld.new ?_ (fun k => ro_0 xs _ k (Nat.le_of_ble_eq_true rfl)) (by decide +kernel) (by decide +kernel)
  refine Bld.wr ?_
  refine Bld.new ?_ (fun k => ro_0 xs _ k (Nat.le_of_ble_eq_true rfl)) (by decide +kernel) (by decide +kernel)
  refine Bld.wr ?_
  refine Bld.new ?_ (fun k => ro_0 xs _ k (Nat.le_of_ble_eq_true rfl)) (by decide +kernel) (by decide +kernel)
  refine Bld.wr ?_
  refine Bld.new ?_ (fun k => ro_0 xs _ k (Nat.le_of_ble_eq_true rfl)) (by decide +kernel) (by decide +kernel)
  refine Bld.wr ?_
  refine Bld.new ?_ (fun k => ro_0 xs _ k (Nat.le_of_ble_eq_true rfl)) (by decide +kernel) (by decide +kernel)
  refine Bld.wr ?_
  refine Bld.new ?_ (fun k => ro_0 xs _ k (Nat.le_of_ble_eq_true rfl)) (by decide +kernel) (by decide +kernel)
  refine Bld.wi ?_
  refine Bld.wr ?_
  refine Bld.new ?_ (fun k => ro_0 xs _ k (Nat.le_of_ble_eq_true rfl)) (by decide +kernel) (by decide +kernel)
  refine Bld.wi ?_
  refine Bld.wi ?_
  refine Bld.wi ?_
  refine Bld.wi ?_
  refine Bld.wr ?_
  refine Bld.new ?_ (fun k => ro_0 xs _ k (Nat.le_of_ble_eq_true rfl)) (by decide +kernel) (by decide +kernel)
  refine Bld.new ?_ (fun k => ro_0 xs _ k (Nat.le_of_ble_eq_true rfl)) (by decide +kernel) (by decide +kernel)
  refine Bld.new ?_ (fun k => ro_0 xs _ k (Nat.le_of_ble_eq_true rfl)) (by decide +kernel) (by decide +kernel)
  exact ⟨rfl, (List.append_nil _).symm, fun _ _ => rfl, fun _ _ => rfl⟩
set_option maxRecDepth 20000 in
set_option maxHeartbeats 4000000 in
theorem b_9 {M : XM} (h : Bld L (x_roI xs) 83 SH8 RI8 RR8 M) : Bld L (x_roI xs) 105 SH9 RI9 RR9 (X9 (x_new M 19 0)) := by
  unfold SH8 RI8 RR8 at h
  unfold SH9 RI9 RR9
  unfold X9
  refine Bld.wr ?_
  refine Bld.new ?_ (fun k => ro_0 xs _ k (Nat.le_of_ble_eq_true rfl)) (by decide +kernel) (by decide +kernel)
  refine Bld.wr ?_
  refine Bld.new ?_ (fun k => ro_0 xs _ k (Nat.le_of_ble_eq_true rfl)) (by decide +kernel) (by decide +kernel)
  refine Bld.wr ?_
  refine Bld.new ?_ (fun k => ro_0 xs _ k (Nat.le_of_ble_eq_true rfl)) (by decide +kernel) (by decide +kernel)
  refine Bld.wr ?_
  refine Bld.new ?_ (fun k => ro_0 xs _ k (Nat.le_of_ble_eq_true rfl)) (by decide +kernel) (by decide +kernel)
  refine Bld.wr ?_
  refine Bld.new ?_ (fun k => ro_0 xs _ k (Nat.le_of_ble_eq_true rfl)) (by decide +kernel) (by decide +kernel)
  refine Bld.wr ?_
  refine Bld.new ?_ (fun k => ro_0 xs _ k (Nat.le_of_ble_eq_true rfl)) (by decide +kernel) (by decide +kernel)
  refine Bld.wr ?_
  refine Bld.new ?_ (fun k => ro_0 xs _ k (Nat.le_of_ble_eq_true rfl)) (by decide +kernel) (by decide +kernel)
  refine Bld.wr ?_
  refine Bld.wi ?_
  refine Bld.wi ?_
  refine Bld.wi ?_
  refine Bld.wi ?_
  refine Bld.wi ?_
  refine Bld.wi ?_
  refine Bld.wi ?_
  refine Bld.wi ?_
  refine Bld.wi ?_
  refine Bld.wi ?_
  refine Bld.wi ?_
  refine Bld.wi ?_
  refine Bld.wi ?_
  refine Bld.wi ?_
  refine Bld.wi ?_
  refine Bld.wi ?_
  refine Bld.wi ?_
  refine Bld.wi ?_
  refine Bld.wi ?_
  refine Bld.wi ?_
  refine Bld.wi ?_
  refine Bld.wi ?_
  refine Bld.wi ?_
  refine Bld.wi ?_
  refine Bld.wi ?_
  refine Bld.wi ?_
  refine Bld.wi ?_
  refine Bld.wi ?_
  refine Bld.wi ?_
  refine Bld.wi ?_
  refine Bld.wi ?_
  refine Bld.wi ?_
  refine Bld.wi ?_
  refine Bld.wi ?_
  refine Bld.wi ?_
  refine Bld.wi ?_
  refine Bld.wi ?_
  refine Bld.wi ?_
  refine Bld.wi ?_
  refine Bld.wi ?_
  refine Bld.wi ?_
  refine Bld.wi ?_
  refine Bld.wi ?_
  refine Bld.wi ?_
  refine Bld.new ?_ (fun k => ro_0 xs _ k (Nat.le_of_ble_eq_true rfl)) (by decide +kernel) (by decide +kernel)
  refine Bld.wr ?_
  refine Bld.new ?_ (fun k => ro_0 xs _ k (Nat.le_of_ble_eq_true rfl)) (by decide +kernel) (by decide +kernel)
  refine Bld.wr ?_
  refine Bld.new ?_ (fun k => ro_0 xs _ k (Nat.le_of_ble_eq_true rfl)) (by decide +kernel) (by decide +kernel)
  refine Bld.wr ?_
  refine Bld.new ?_ (fun k => ro_0 xs _ k (Nat.le_of_ble_eq_true rfl)) (by decide +kernel) (by decide +kernel)
  refine Bld.wr ?_
  refine Bld.new ?_ (fun k => ro_0 xs _ k (Nat.le_of_ble_eq_true rfl)) (by decide +kernel) (by decide +kernel)
  refine Bld.wr ?_
  refine Bld.new ?_ (fun k => ro_0 xs _ k (Nat.le_of_ble_eq_true rfl)) (by decide +kernel) (by decide +kernel)
  refine Bld.wr ?_
  refine Bld.new ?_ (fun k => ro_0 xs _ k (Nat.le_of_ble_eq_true rfl)) (by decide +kernel) (by decide +kernel)
  refine Bld.wr ?_
  refine Bld.new ?_ (fun k => ro_0 xs _ k (Nat.le_of_ble_eq_true rfl)) (by decide +kernel) (by decide +kernel)
  refine Bld.wr ?_
  refine Bld.new ?_ (fun k => ro_0 xs _ k (Nat.le_of_ble_eq_true rfl)) (by decide +kernel) (by decide +kernel)
  refine Bld.wr ?_
  refine Bld.new ?_ (fun k => ro_0 xs _ k (Nat.le_of_ble_eq_true rfl)) (by decide +kernel) (by decide +kernel)
  refine Bld.wr ?_
  refine Bld.new ?_ (fun k => ro_0 xs _ k (Nat.le_of_ble_eq_true rfl)) (by decide +kernel) (by decide +kernel)
  refine Bld.wr ?_
  refine Bld.new ?_ (fun k => ro_0 xs _ k (Nat.le_of_ble_eq_true rfl)) (by decide +kernel) (by decide +kernel)
  refine Bld.wr ?_
  refine Bld.new ?_ (fun k => ro_0 xs _ k (Nat.le_of_ble_eq_true rfl)) (by decide +kernel) (by decide +kernel)
  refine Bld.wr ?_
  refine Bld.new ?_ (fun k => ro_0 xs _ k (Nat.le_of_ble_eq_true rfl)) (by decide +kernel) (by decide +kernel)
  refine Bld.wi ?_
  refine Bld.wi ?_
  refine Bld.wi ?_
  refine Bld.wi ?_
  refine Bld.wi ?_
  refine Bld.wi ?_
  refine Bld.new ?_ (fun k => ro_0 xs _ k (Nat.le_of_ble_eq_true rfl)) (by decide +kernel) (by decide +kernel)
  exact h
theorem rr_keys : ∀ q ∈ RR9, asR RR9 q.1 q.2.1 = RR false false q.1 q.2.1 := by decide +kernel
theorem rr_off {a k : Nat} (h : RR9.any (fun q => a == q.1 && k == q.2.1) = false) : RR false false a k = 0 := by
  unfold RR
  split <;> first | rfl | exact absurd h (by decide +kernel)
theorem rr_all (a k : Nat) : asR RR9 a k = RR false false a k := by
  cases h : RR9.any (fun q => a == q.1 && k == q.2.1) with
  | true =>
    obtain ⟨q, hq, e⟩ := List.any_eq_true.mp h
    simp only [Bool.and_eq_true, beq_iff_eq] at e
    rw [e.1, e.2]
    exact rr_keys q hq
  | false =>
    rw [rr_off h]
    refine asR_nk (fun q hq e => ?_)
    have := List.any_eq_false.mp h q hq
    rw [e.1, e.2] at this
    simp at this
/-- the abstract state at the start -/
def ρ0 : XR := (fun k => ([0, 20, 5, 100, 1, 0] : List Nat).getD k 0, fun _ _ => 0, fun _ => 0, 0, 1)
def σ0 : XS := (ρ0, none, fun _ _ => 0, fun _ _ => 0, fun _ => 0, -1, 0, fun _ => 0)
theorem wfs_0 : WFS 0 σ0 := by
  refine ⟨⟨by decide, fun c _ => ⟨Nat.zero_le _, Nat.zero_le _, Nat.zero_le _, Nat.zero_le _⟩, fun c h => absurd h (Nat.not_lt_zero c), fun i _ => Nat.zero_le _⟩, fun κ h => ?_, fun s _ => ⟨Nat.zero_le _, fun q => absurd (show (0 : Nat) = 1 from q) (by decide), fun q => absurd (show (0 : Nat) = 2 from q) (by decide)⟩, by decide⟩
  cases (show (none : Option XR) = some κ from h)
theorem lo_9 : RI9.all (fun q => Nat.ble 20 q.1) = true := by decide +kernel
theorem cs_0 : ∀ k, k < 7 → ∀ j, j < 8 → j < nl k → (x_byt.getD k []).getD j 0 = nI (nc k j) := by decide +kernel
theorem LwI_0 {M : XM} (h : Bld L (x_roI xs) 105 SH9 RI9 RR9 M) : LwI L σ0 xs M := by
  obtain ⟨h1, h2, h3, h4⟩ := h
  have z : ∀ a k, 20 ≤ a → x_i M a k = asI RI9 a k 0 := fun a k ha => by rw [h3, ro_0 xs a k (by omega)]
  have ro : ∀ a k, a < 20 → x_i M a k = x_roI xs a k := fun a k ha => by rw [h3, asI_lo lo_9 ha]
  refine ⟨false, false, ⟨by rw [h2, show SH9.reverse = SHm from by decide +kernel], funext fun a => funext fun k => (h4 a k).trans (rr_all a k)⟩, ?_, ?_, ?_, ?_, ?_, fun j => ro 1 j (by omega)⟩
  · refine ⟨⟨⟨(z _ _ (by omega)).trans (by decide +kernel), (z _ _ (by omega)).trans (by decide +kernel), (z _ _ (by omega)).trans (by decide +kernel), (z _ _ (by omega)).trans (by decide +kernel), (z _ _ (by omega)).trans (by decide +kernel), (z _ _ (by omega)).trans (by decide +kernel), (z _ _ (by omega)).trans (by decide +kernel), (z _ _ (by omega)).trans (by decide +kernel)⟩, ?_, ?_⟩, ?_, ?_, ?_, ?_, ?_, ?_⟩
    · intro c hc
      rw [z _ _ (by omega), z _ _ (by omega), z _ _ (by omega), z _ _ (by omega), z _ _ (by omega)]
      revert c
      decide +kernel
    · intro i hi
      rw [z _ _ (by omega)]
      revert i
      decide +kernel
    · show x_i M 20 2 = 0
      exact (z _ _ (by omega)).trans (by decide +kernel)
    · intro s hs
      rw [z _ _ (by omega), z _ _ (by omega), z _ _ (by omega)]
      have e : asI RI9 (67 + 2 * s) 0 0 = -1 ∧ asI RI9 (67 + 2 * s) 1 0 = -1 ∧ asI RI9 (67 + 2 * s) 2 0 = 0 := by
        revert s
        decide +kernel
      exact ⟨fun _ => e, fun q => absurd (show (0 : Nat) = 1 from q) (by decide), fun q => absurd (show (0 : Nat) = 2 from q) (by decide)⟩
    · intro k hk
      rw [z _ _ (by omega)]
      revert k
      decide +kernel
    · exact (z _ _ (by omega)).trans (by decide +kernel)
    · exact (z _ _ (by omega)).trans (by decide +kernel)
    · exact fun i _ hr => absurd hr (Nat.not_lt_zero i)
  · refine ⟨⟨⟨(z _ _ (by omega)).trans (by decide +kernel), (z _ _ (by omega)).trans (by decide +kernel), (z _ _ (by omega)).trans (by decide +kernel), (z _ _ (by omega)).trans (by decide +kernel), (z _ _ (by omega)).trans (by decide +kernel), (z _ _ (by omega)).trans (by decide +kernel), (z _ _ (by omega)).trans (by decide +kernel), (z _ _ (by omega)).trans (by decide +kernel)⟩, ?_, ?_⟩, ?_, ?_, ?_, ?_, ?_, ?_⟩
    · intro c hc
      rw [z _ _ (by omega), z _ _ (by omega), z _ _ (by omega), z _ _ (by omega), z _ _ (by omega)]
      revert c
      decide +kernel
    · intro i hi
      rw [z _ _ (by omega)]
      revert i
      decide +kernel
    · show x_i M 83 41 = 0
      exact (z _ _ (by omega)).trans (by decide +kernel)
    · intro s hs
      rw [z _ _ (by omega)]
      have e : asI RI9 91 s 0 = nI (s_sh σ0 0 s) := by
        revert s
        decide +kernel
      exact ⟨e, fun q => absurd (show (0 : Nat) = 1 from q) (by decide), fun q => absurd (show (0 : Nat) = 2 from q) (by decide)⟩
    · intro k hk
      rw [z _ _ (by omega)]
      revert k
      decide +kernel
    · exact (z _ _ (by omega)).trans (by decide +kernel)
    · exact (z _ _ (by omega)).trans (by decide +kernel)
    · exact fun i _ hr => absurd hr (Nat.not_lt_zero i)
  · intro k hk
    rw [z _ _ (by omega)]
    revert k
    decide +kernel
  · refine ⟨⟨(ro _ _ (by omega)).trans ?_, (ro _ _ (by omega)).trans ?_, (ro _ _ (by omega)).trans ?_, (ro _ _ (by omega)).trans ?_, (ro _ _ (by omega)).trans ?_, (ro _ _ (by omega)).trans ?_, (ro _ _ (by omega)).trans ?_⟩, ⟨(ro _ _ (by omega)).trans ?_, (ro _ _ (by omega)).trans ?_, (ro _ _ (by omega)).trans ?_, (ro _ _ (by omega)).trans ?_⟩, (ro _ _ (by omega)).trans ?_, (ro _ _ (by omega)).trans ?_, (ro _ _ (by omega)).trans ?_, (ro _ _ (by omega)).trans ?_⟩ <;> first | rfl | exact m_1
  · intro k j hk hj
    have hl := nl_b k
    rw [ro _ _ (by omega), ← cs_0 k hk j (by omega) hj, show 12 + k = (k + 7) + 5 by omega]
    show (if k + 7 < 7 then 0 else (x_byt.getD (k + 7 - 7) []).getD j 0) = _
    rw [if_neg (by omega), Nat.add_sub_cancel]
set_option maxRecDepth 20000 in
/-- the law answers 1, on every script -/
theorem law_start (L : Nat) (xs : Nat → Int32) (hL : L ≤ 3072) : ∃ M', f_L_law 1 (M00 L xs) = some (nI 1, M') := by
  obtain ⟨M1, M2, M3, h1, h2, h3, e8⟩ := x8_i (M := x_new (M00 L xs) 18 0) rfl rfl
  have hb8 := b_8 h1 h2 h3
  have n8 : x_n (X8 M3) = 83 := hb8.1
  have hI := LwI_0 (b_9 hb8)
  have e9 := x9_i (M := x_new (X8 M3) 19 0) (by rw [nn_new, n8]) (by rw [nt_new, n8, if_pos rfl])
  obtain ⟨M', e⟩ := law_lp (by omega) 520 x_fuel 0 0 σ0 _ (fu (by omega)) hI wfs_0 (by omega) (by omega) (by omega)
  refine ⟨M', ?_⟩
  unfold f_L_law
  refine al_e (a := 20) rfl ?_
  refine bv_s e8 ?_
  unfold f_L_law_c4
  refine al_e n8 ?_
  refine bv_s e9 ?_
  show lp_L_law_18 x_fuel 1 20 83 (nI 0) (X9 (x_new (X8 M3) 19 0)) = _
  exact e
end
