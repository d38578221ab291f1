/-! THE CLAIM OUT OF ONE WALK OF THE LAW'S BODY. Your part is whole_start (and what it stands on); all else here is the same for every law, but numbers. -/
def R_law : String := "WhatDidYouSayLaw"
def lw_P (b : Addr) (xs : List Int32) (args : Array Value) (s : State) : Prop := args = #[.ref b] ∧ s.IntsAt b xs ∧ xs.length ≤ 3072 ∧ (Jvm.Cond.and given_1 narrow_1).before args s = true
def lw_Q (_ : Array Value) (s : State) (o : Outcome) (t : State) : Prop := o = .returned (some (.int 1)) ∧ Framed s o t [] 600000 7302250
def lw_Z (below : List Frame) (a : Array Value) (s : State) : State → Prop := fun t => ∃ o, t.status = .running ∧ Ended t below o ∧ lw_Q a s o t
/-- the law's own end, with 1 on the stack, nothing written that was there before, its room as the claim has it -/
theorem lw_ret {p : Program} {l : Launch} {e : Env} {s : State} {m : MethodId} {below : List Frame} {meth : Method} {c : Code} {b : Nat} (hx : p.tables.exec = Jvm.exec) (hb : c.code = code) (hr : meth.sig.returnType = ret) (hlocks : meth.locks = false) {pc : Nat} {H : Heap} {ls : Array Slot} (hdg : decode code pc = .ok (.ireturn, 1)) : W p l e room_1 s m #[Value.ref b] below meth c H [] 600000 7302250 (lw_Z below #[Value.ref b] s) (F0 m pc ls [.int 1]) := by
  intro T hT X
  obtain ⟨fs, hret, hrun, hended, hW, hframe⟩ := X.leave (v := some (.int 1)) (hlocks := hlocks) (fun h => by rw [hr] at h; cases h)
  have hmeth' : T.vm.method? m = some meth := X.method'
  refine ⟨T.setFrames fs, ?_, .returned (some (.int 1)), hrun, hended, rfl, ⟨_, rfl⟩, hW, hframe⟩
  jvm_step X.here [X.here.top, hx, hb, hdg, hmeth', hr, ret, narrow_b1]
  (try refine ⟨rfl, ?_⟩); (try refine ⟨rfl, ?_⟩)
  first | (intro acts; rw [hret _ acts rfl rfl rfl]) | rw [hret _ _ rfl rfl rfl]
  exact Steps.refl _
/-- what holds at the law's entry: the machine, the code, the tables' words (any of lw_tbl by 'hts w (by decide +kernel)'), the script of L ints xs at the cell b, what the Statement gives of the start (any of its parts by flat_of_before) -/
def lw_At (p : Program) (s : State) (m : MethodId) (meth : Method) (c : Code) (b L : Nat) (xs : Nat → Int32) : Prop :=
  p.tables.exec = Jvm.exec ∧ c.code = code ∧ meth.sig.returnType = ret ∧ c.maxLocals = 4 ∧ s.vm.findClass R_law = some m.cls ∧ (∀ w ∈ lw_tbl, w.before #[Value.ref b] s = true) ∧ va_X b L xs s s.heap ∧ b < s.heap.size ∧ meth.locks = false ∧ (Jvm.Cond.and given_1 narrow_1).before #[Value.ref b] s = true
section
variable {args : Array Value} {s : State}
theorem st_prim {ty : FieldType} (hty : ty = .int ∨ ty = .long) (h : (Cond.arrayClass ty).before args s = true) : ∃ cA, ArrOfT s cA ty ∧ va_RA s cA ty := by
  obtain ⟨c, k, comp, h1, h2, h3⟩ := Cond.arrayClass_spec h
  refine ⟨c, fun n z => ⟨fun k h => (by cases h), k, h2, comp, h3⟩, ?_⟩
  rcases hty with rfl | rfl
  · exact h1
  · exact h1
theorem st_obj {C : String} (h : (Cond.arrayOver (.object C)).before args s = true) : ∃ cA, ArrOfT s cA (.object C) ∧ va_RA s cA (.object C) := by
  obtain ⟨comp, c, k, h1, h2, h3, h4, h5⟩ := Cond.arrayOver_spec h
  exact ⟨c, fun n z => ⟨fun k h => (by cases h), k, h3, comp, h4⟩, k, comp, h3, h4, h1, h5⟩
/-- a static int row that the start gives, cell by cell -/
theorem st_tab {nm : String} {N : Nat} {f : Nat → Int32} {A : Nat → Prop} (hs : ∀ c ∈ flatC (Jvm.Cond.and given_1 narrow_1), c.before args s = true) (hN : N < 2 ^ 31) (h1 : Cond.arrayOf (.static "WhatDidYouSay" nm "[I") .int ∈ flatC (Jvm.Cond.and given_1 narrow_1))
    (h2 : Cond.eq (.length (.static "WhatDidYouSay" nm "[I")) (.int (Int32.ofNat N)) ∈ flatC (Jvm.Cond.and given_1 narrow_1)) (h3 : ∀ j, j < N → Cond.eq (.elem (.static "WhatDidYouSay" nm "[I") (.int (Int32.ofNat j))) (.int (f j)) ∈ flatC (Jvm.Cond.and given_1 narrow_1)) (hA : ∀ a : Nat, a < s.heap.size → ¬ A a) :
    ∃ t : Nat, (Term.static "WhatDidYouSay" nm "[I").eval args s none [] s = some (.ref t) ∧ va_T .int t N (fun j => .int (f j)) A s s.heap :=
  va_Tof hN (hs _ h1) (va_eqt (hs _ h2)) (fun j hj => va_eqt (hs _ (h3 j hj))) hA
end
def st_A : Nat → Int32 := fun j => ([-1, 0, 0, 2, 0, 1, 4] : List Int32).getD j 0
def st_L : Nat → Int32 := fun j => ([1, 1, 0, 0] : List Int32).getD j 0
def st_M : Nat → Int32 := fun j => ([200, 200, 1000, 99] : List Int32).getD j 0
def st_len : List Nat := [2, 5, 4, 4, 5, 7, 3]
def st_tm : Nat → Term := fun i => .string RX5 (137 + 2 * i)
theorem st_1A : Cond.arrayOf (.static "WhatDidYouSay" "ABOVE" "[I") .int ∈ flatC (Jvm.Cond.and given_1 narrow_1) := by decide +kernel
theorem st_2A : Cond.eq (.length (.static "WhatDidYouSay" "ABOVE" "[I")) (.int (Int32.ofNat 7)) ∈ flatC (Jvm.Cond.and given_1 narrow_1) := by decide +kernel
theorem st_3A : ∀ j, j < 7 → Cond.eq (.elem (.static "WhatDidYouSay" "ABOVE" "[I") (.int (Int32.ofNat j))) (.int (st_A j)) ∈ flatC (Jvm.Cond.and given_1 narrow_1) := by decide +kernel
theorem st_1L : Cond.arrayOf (.static "WhatDidYouSay" "LEAST" "[I") .int ∈ flatC (Jvm.Cond.and given_1 narrow_1) := by decide +kernel
theorem st_2L : Cond.eq (.length (.static "WhatDidYouSay" "LEAST" "[I")) (.int (Int32.ofNat 4)) ∈ flatC (Jvm.Cond.and given_1 narrow_1) := by decide +kernel
theorem st_3L : ∀ j, j < 4 → Cond.eq (.elem (.static "WhatDidYouSay" "LEAST" "[I") (.int (Int32.ofNat j))) (.int (st_L j)) ∈ flatC (Jvm.Cond.and given_1 narrow_1) := by decide +kernel
theorem st_1M : Cond.arrayOf (.static "WhatDidYouSay" "MOST" "[I") .int ∈ flatC (Jvm.Cond.and given_1 narrow_1) := by decide +kernel
theorem st_2M : Cond.eq (.length (.static "WhatDidYouSay" "MOST" "[I")) (.int (Int32.ofNat 4)) ∈ flatC (Jvm.Cond.and given_1 narrow_1) := by decide +kernel
theorem st_3M : ∀ j, j < 4 → Cond.eq (.elem (.static "WhatDidYouSay" "MOST" "[I") (.int (Int32.ofNat j))) (.int (st_M j)) ∈ flatC (Jvm.Cond.and given_1 narrow_1) := by decide +kernel
theorem st_s1 : ∀ i, i < 7 → Cond.exactly (st_tm i) "java/lang/String" ∈ flatC (Jvm.Cond.and given_1 narrow_1) := by decide +kernel
theorem st_s2 : ∀ i, i < 7 → Cond.eq (.field (st_tm i) "java/lang/String" "coder" "B") (.int 0) ∈ flatC (Jvm.Cond.and given_1 narrow_1) := by decide +kernel
theorem st_s3 : ∀ i, i < 7 → Cond.arrayOf (.field (st_tm i) "java/lang/String" "value" "[B") .byte ∈ flatC (Jvm.Cond.and given_1 narrow_1) := by decide +kernel
theorem st_s4 : ∀ i, i < 7 → Cond.eq (.length (.field (st_tm i) "java/lang/String" "value" "[B")) (.int (Int32.ofNat (st_len.getD i 0))) ∈ flatC (Jvm.Cond.and given_1 narrow_1) := by decide +kernel
theorem st_s5 : ∀ i, i < 7 → ∀ j, j < st_len.getD i 0 → Cond.eq (.elem (.field (st_tm i) "java/lang/String" "value" "[B") (.int (Int32.ofNat j))) (.int ((x_byt.getD i []).getD j 0)) ∈ flatC (Jvm.Cond.and given_1 narrow_1) := by decide +kernel
theorem st_s6 : ∀ i, i < 7 → ∀ j, j < 7 → i ≠ j → Cond.not (.eq (st_tm i) (st_tm j)) ∈ flatC (Jvm.Cond.and given_1 narrow_1) ∨ Cond.not (.eq (st_tm j) (st_tm i)) ∈ flatC (Jvm.Cond.and given_1 narrow_1) := by decide +kernel
theorem st_s7 : ∀ i, i < 7 → st_len.getD i 0 < 2 ^ 31 := by decide +kernel
theorem st_cs : Cond.eq (.static "java/lang/String" "COMPACT_STRINGS" "Z") (.int 1) ∈ flatC (Jvm.Cond.and given_1 narrow_1) := by decide +kernel
theorem st_sf : Cond.isRef (.static "jdk/internal/util/Preconditions" "SIOOBE_FORMATTER" "Ljava/util/function/BiFunction;") ∈ flatC (Jvm.Cond.and given_1 narrow_1) := by decide +kernel
set_option maxRecDepth 100000 in
theorem st_in (ci : Nat) (h : ci < 10) : Cond.instantiable (x_R ci) (x_N ci) ∈ lw_tbl := by
  match ci, h with
  | 0, _ => decide +kernel
  | 1, _ => decide +kernel
  | 2, _ => decide +kernel
  | 3, _ => decide +kernel
  | 4, _ => decide +kernel
  | 5, _ => decide +kernel
  | 6, _ => decide +kernel
  | 7, _ => decide +kernel
  | 8, _ => decide +kernel
  | 9, _ => decide +kernel
set_option maxRecDepth 100000 in
theorem st_ai : Cond.arrayClass .int ∈ lw_tbl := by decide +kernel
set_option maxRecDepth 100000 in
theorem st_aj : Cond.arrayClass .long ∈ lw_tbl := by decide +kernel
set_option maxRecDepth 100000 in
theorem st_a2 : Cond.arrayOver (.object RX2) ∈ lw_tbl := by decide +kernel
set_option maxRecDepth 100000 in
theorem st_a6 : Cond.arrayOver (.object RX6) ∈ lw_tbl := by decide +kernel
set_option maxRecDepth 100000 in
theorem st_lA : Cond.laysStatic "WhatDidYouSay" "ABOVE" "[I" ∈ lw_tbl := by decide +kernel
set_option maxRecDepth 100000 in
theorem st_lL : Cond.laysStatic "WhatDidYouSay" "LEAST" "[I" ∈ lw_tbl := by decide +kernel
set_option maxRecDepth 100000 in
theorem st_lM : Cond.laysStatic "WhatDidYouSay" "MOST" "[I" ∈ lw_tbl := by decide +kernel
set_option maxRecDepth 100000 in
theorem st_lc : Cond.laysStatic "java/lang/String" "COMPACT_STRINGS" "Z" ∈ lw_tbl := by decide +kernel
set_option maxRecDepth 100000 in
theorem st_lf : Cond.laysStatic "jdk/internal/util/Preconditions" "SIOOBE_FORMATTER" "Ljava/util/function/BiFunction;" ∈ lw_tbl := by decide +kernel
set_option maxRecDepth 100000 in
theorem st_iw : Cond.initialized "WhatDidYouSay" ∈ lw_tbl := by decide +kernel
set_option maxRecDepth 100000 in
theorem st_is : Cond.initialized "java/lang/String" ∈ lw_tbl := by decide +kernel
set_option maxRecDepth 100000 in
theorem st_ip : Cond.initialized "jdk/internal/util/Preconditions" ∈ lw_tbl := by decide +kernel
set_option maxRecDepth 100000 in
theorem st_sr : ∀ i, i < 7 → Cond.stringRef RX5 (137 + 2 * i) (x_str i) ∈ lw_tbl := by decide +kernel
set_option maxRecDepth 100000 in
theorem st_nm : ∀ q ∈ x_nestM, Cond.methodLinkNest q.1 q.2.1 q.2.2.1 q.2.2.2 ∈ lw_tbl := by decide +kernel
set_option maxRecDepth 100000 in
theorem st_nf : ∀ q ∈ x_nestF, Cond.fieldLinkNest q.1 q.2.1 q.2.2.1 q.2.2.2.1 q.2.2.2.2.1 q.2.2.2.2.2 ∈ lw_tbl := by decide +kernel
/-- the classes' numbers and slots -/
theorem st_known {args : Array Value} {s : State} (hts : ∀ w ∈ lw_tbl, w.before args s = true) : ∃ D : va_G, ∀ (k : Nat) (q : vw_C), vwCl[k]? = some q → u_Kn s q.1 q.2.1 q.2.2 (D.1 k) (D.2 k) := by
  have key : ∀ ci, ci < 10 → ∃ (cC : ClassId) (iS : Nat → Nat), u_Kn s (x_R ci) (x_T ci) (x_N ci) cC iS := fun ci h => u_known (n := x_N ci) hts (x_uws ci h) (hts _ (st_in ci h))
  have h0 : ∀ ci : Nat, ∃ q : ClassId × (Nat → Nat), ci < 10 → u_Kn s (x_R ci) (x_T ci) (x_N ci) q.1 q.2 := by
    intro ci
    by_cases h : ci < 10
    · obtain ⟨a, f, h'⟩ := key ci h
      exact ⟨(a, f), fun _ => h'⟩
    · obtain ⟨a, f, -⟩ := key 0 (by omega)
      exact ⟨(a, f), fun h' => absurd h' h⟩
  obtain ⟨ad, had⟩ := Classical.axiomOfChoice h0
  refine ⟨(fun k => (ad k).1, fun k => (ad k).2), fun k q hq => ?_⟩
  have hk : k < 10 := (List.getElem?_eq_some_iff.mp hq).1
  rw [x_cl k hk] at hq
  cases hq
  exact had k hk
theorem st_rf {v : Value} (h : v.isRef = true) : ∃ r : Option Nat, v = va_rf r := by
  cases v with
  | null => exact ⟨none, rfl⟩
  | ref a => exact ⟨some a, rfl⟩
  | _ => cases h
/-- where the cells that nobody writes are -/
def st_ro (b tA tL tM : Nat) (adK adV : Nat → Nat) (r : Option Nat) : Nat → Option Nat := fun k => match k with
  | 0 => none
  | 1 => some b
  | 2 => some tA
  | 3 => some tL
  | 4 => some tM
  | 5 => some (adK 0)
  | 6 => some (adK 1)
  | 7 => some (adK 2)
  | 8 => some (adK 3)
  | 9 => some (adK 4)
  | 10 => some (adK 5)
  | 11 => some (adK 6)
  | 12 => some (adV 0)
  | 13 => some (adV 1)
  | 14 => some (adV 2)
  | 15 => some (adV 3)
  | 16 => some (adV 4)
  | 17 => some (adV 5)
  | 18 => some (adV 6)
  | _ => r
theorem st_world {p : Program} {s : State} {m : MethodId} {meth : Method} {c : Code} {b L : Nat} {xs : Nat → Int32} (C0 : lw_At p s m meth c b L xs) : ∃ Γ : XG, g_b Γ = s.heap.size ∧ x_v Γ (.ref 1) = .ref b ∧ x_U Γ s s.heap ∧ x_H Γ (M00 L xs) s.heap := by
  obtain ⟨hx, hb, hr, hml, hown, hts, hX, hbl, hlocks, hgv⟩ := C0
  have hs : ∀ c ∈ flatC (Jvm.Cond.and given_1 narrow_1), c.before #[Value.ref b] s = true := flat_of_before _ hgv
  have hA : ∀ a : Nat, a < s.heap.size → ¬ (fun q : Nat => s.heap.size ≤ q) a := fun a h => Nat.not_le.mpr h
  obtain ⟨D, hKc⟩ := st_known hts
  obtain ⟨t1, a1, r1⟩ := st_prim (Or.inl rfl) (hts _ st_ai)
  obtain ⟨t2, a2, r2⟩ := st_prim (Or.inr rfl) (hts _ st_aj)
  obtain ⟨t3, a3, r3⟩ := st_obj (hts _ st_a2)
  obtain ⟨t4, a4, r4⟩ := st_obj (hts _ st_a6)
  obtain ⟨tA, eA, TA⟩ := st_tab (f := st_A) hs (by decide) st_1A st_2A st_3A hA
  obtain ⟨tL, eL, TL⟩ := st_tab (f := st_L) hs (by decide) st_1L st_2L st_3L hA
  obtain ⟨tM, eM, TM⟩ := st_tab (f := st_M) hs (by decide) st_1M st_2M st_3M hA
  obtain ⟨adK, adV, ⟨hS, -⟩, ev⟩ := vk_Sof (tm := st_tm) (len := st_len) (byt := x_byt) (N := 7) st_s7 (fun i hi => hs _ (st_s1 i hi)) (fun i hi => hs _ (st_s2 i hi)) (fun i hi => hs _ (st_s3 i hi)) (fun i hi => hs _ (st_s4 i hi)) (fun i hi j hj => hs _ (st_s5 i hi j hj)) (fun i j hi hj hij => (st_s6 i hi j hj hij).imp (hs _) (hs _)) hA
  obtain ⟨v, hv, hvr⟩ := Cond.isRef_spec (hs _ st_sf)
  obtain ⟨r, rfl⟩ := st_rf hvr
  have hR : ∀ i, i < 7 → vk_R RX5 (137 + 2 * i) (x_str i) (adK i) s := fun i hi => vk_R.of (hts _ (st_sr i hi)) (ev i hi)
  have hTs : va_T .int b L (fun j => .int (xs j)) (fun q : Nat => s.heap.size ≤ q) s s.heap := by
    obtain ⟨scr, q1, q2, q3, q4, q5⟩ := hX
    exact ⟨scr, q1, q2, q3, Nat.le_of_eq q4.symm, (by rw [q4] <;> rfl), q5, Nat.not_le.mpr hbl⟩
  refine ⟨(st_ro b tA tL tM adK adV r, xs, s.heap.size, L, D, fun k => match k with | 1 => t1 | 2 => t2 | 3 => t3 | _ => t4), rfl, rfl, ⟨⟨hKc, ?_⟩, rfl, ?_, va_Zof (hts _ st_lA) (hts _ st_iw) eA hA, va_Zof (hts _ st_lL) (hts _ st_iw) eL hA, va_Zof (hts _ st_lM) (hts _ st_iw) eM hA, va_Zof (hts _ st_lc) (hts _ st_is) (va_eqi (hs _ st_cs)) hA, va_Zof (hts _ st_lf) (hts _ st_ip) hv hA, ?_, fun q hq => va_Nw.of rfl (hts _ (st_nm q hq)), fun q hq => va_Nw.of rfl (hts _ (st_nf q hq)), va_AO.of (hts _ st_a2), va_AO.of (hts _ st_a6)⟩, ?_⟩
  · intro k q hk
    match k, hk with
    | 0, hk => cases hk; exact ⟨a1, r1⟩
    | 1, hk => cases hk; exact ⟨a2, r2⟩
    | 2, hk => cases hk; exact ⟨a3, r3⟩
    | 3, hk => cases hk; exact ⟨a4, r4⟩
    | k + 4, hk => simp [x_tys] at hk
  · intro a g1 g2
    match a, g1, g2 with
    | 1, _, _ => exact ⟨b, rfl, hTs⟩
    | 2, _, _ => exact ⟨tA, rfl, TA⟩
    | 3, _, _ => exact ⟨tL, rfl, TL⟩
    | 4, _, _ => exact ⟨tM, rfl, TM⟩
  · intro i hi
    match i, hi with
    | 0, hi => exact ⟨adK 0, adV 0, rfl, rfl, hR 0 hi, (hS 0 hi).1, (hS 0 hi).2.1, (hS 0 hi).2.2.1, (hS 0 hi).2.2.2⟩
    | 1, hi => exact ⟨adK 1, adV 1, rfl, rfl, hR 1 hi, (hS 1 hi).1, (hS 1 hi).2.1, (hS 1 hi).2.2.1, (hS 1 hi).2.2.2⟩
    | 2, hi => exact ⟨adK 2, adV 2, rfl, rfl, hR 2 hi, (hS 2 hi).1, (hS 2 hi).2.1, (hS 2 hi).2.2.1, (hS 2 hi).2.2.2⟩
    | 3, hi => exact ⟨adK 3, adV 3, rfl, rfl, hR 3 hi, (hS 3 hi).1, (hS 3 hi).2.1, (hS 3 hi).2.2.1, (hS 3 hi).2.2.2⟩
    | 4, hi => exact ⟨adK 4, adV 4, rfl, rfl, hR 4 hi, (hS 4 hi).1, (hS 4 hi).2.1, (hS 4 hi).2.2.1, (hS 4 hi).2.2.2⟩
    | 5, hi => exact ⟨adK 5, adV 5, rfl, rfl, hR 5 hi, (hS 5 hi).1, (hS 5 hi).2.1, (hS 5 hi).2.2.1, (hS 5 hi).2.2.2⟩
    | 6, hi => exact ⟨adK 6, adV 6, rfl, rfl, hR 6 hi, (hS 6 hi).1, (hS 6 hi).2.1, (hS 6 hi).2.2.1, (hS 6 hi).2.2.2⟩
  · refine ⟨Nat.le_refl 20, rfl, fun k q hk => ?_, fun a _ j => rfl, rfl⟩
    have e : x_ws (st_ro b tA tL tM adK adV r, xs, s.heap.size, L, D, fun k => match k with | 1 => t1 | 2 => t2 | 3 => t3 | _ => t4) (M00 L xs) = [] := rfl
    rw [e] at hk
    simp at hk
