/-! THE MACHINE BEHIND IT: what a state holds, a method's contract, a walk of the abstract machine -/
def x_TB : List Cond := lw_tbl.filter goodWord
theorem x_tb {w : Cond} {k : Nat} (h : lw_tbl[k]? = some w) (hg : goodWord w = true) : w ∈ x_TB := List.mem_filter.mpr ⟨List.mem_of_getElem? h, hg⟩
theorem x_TB_good {c : Cond} (hc : c ∈ x_TB) : GoodIn x_TB (c :: x_TB) := by
  intro w hw
  have hm : w ∈ x_TB := by
    rcases List.mem_cons.mp hw with rfl | h
    · exact hc
    · exact h
  exact ⟨hm, good_of_word (List.mem_filter.mp hm).2⟩
set_option maxRecDepth 100000 in
theorem x_uwt (ci : Nat) (h : ci < 10) : ∀ w ∈ u_ws (x_R ci) (x_T ci) (x_N ci), w ∈ x_TB := by
  intro w hw
  refine List.mem_filter.mpr ⟨x_uws ci h w hw, ?_⟩
  revert w
  match ci, h with
  | 0, _ => decide +kernel
  | 1, _ => decide +kernel
  | 2, _ => decide +kernel
  | 3, _ => decide +kernel
  | 4, _ => decide +kernel
  | 5, _ => decide +kernel
  | 6, _ => decide +kernel
  | 7, _ => decide +kernel
  | 8, _ => decide +kernel
  | 9, _ => decide +kernel
def x_nestM : List (String × Nat × MethodName × String) := [("WhatDidYouSay$Room", 37, ⟨"WhatDidYouSay$Counter", "<init>", "()V"⟩, "WhatDidYouSay"), ("WhatDidYouSay", 21, ⟨"WhatDidYouSay$RoomReader", "<init>", "()V"⟩, "WhatDidYouSay"), ("WhatDidYouSay", 42, ⟨"WhatDidYouSay$Walk", "<init>", "()V"⟩, "WhatDidYouSay"), ("WhatDidYouSay$Walk", 11, ⟨"WhatDidYouSay$Counter", "<init>", "()V"⟩, "WhatDidYouSay"), ("WhatDidYouSay", 49, ⟨"WhatDidYouSay$Chances", "<init>", "()V"⟩, "WhatDidYouSay"), ("WhatDidYouSay", 56, ⟨"WhatDidYouSay$Delays", "<init>", "()V"⟩, "WhatDidYouSay"), ("WhatDidYouSay", 63, ⟨"WhatDidYouSay$Counter", "<init>", "()V"⟩, "WhatDidYouSay"), ("WhatDidYouSay", 76, ⟨"WhatDidYouSay$Acts", "<init>", "()V"⟩, "WhatDidYouSay"), ("WhatDidYouSay", 81, ⟨"WhatDidYouSay$Shelf", "<init>", "()V"⟩, "WhatDidYouSay"), ("WhatDidYouSay$Counter", 38, ⟨"WhatDidYouSay", "leftOver", "(II)I"⟩, "WhatDidYouSay"), ("WhatDidYouSay$RoomReader", 106, ⟨"WhatDidYouSay", "isSetting", "(I)Z"⟩, "WhatDidYouSay"), ("WhatDidYouSay$Counter", 30, ⟨"WhatDidYouSay", "isUnder", "(II)Z"⟩, "WhatDidYouSay"), ("WhatDidYouSay$Chances", 91, ⟨"WhatDidYouSay", "leftOver", "(II)I"⟩, "WhatDidYouSay"), ("WhatDidYouSay$Acts", 46, ⟨"WhatDidYouSay", "above", "(I)I"⟩, "WhatDidYouSay"), ("WhatDidYouSay$Acts", 50, ⟨"WhatDidYouSay", "isKind", "(I)Z"⟩, "WhatDidYouSay")]
def x_nestF : List (String × Nat × String × String × String × String) := [("WhatDidYouSay$RoomReader", 84, "WhatDidYouSay", "ABOVE", "[I", "WhatDidYouSay"), ("WhatDidYouSay$RoomReader", 109, "WhatDidYouSay", "LEAST", "[I", "WhatDidYouSay"), ("WhatDidYouSay$RoomReader", 112, "WhatDidYouSay", "MOST", "[I", "WhatDidYouSay")]
def x_U (Γ : XG) (U : State) (H : Heap) : Prop :=
  va_K (g_D Γ) vwCl (x_tys Γ) U ∧ g_ro Γ 0 = none ∧
  (∀ a, 1 ≤ a → a < 5 → ∃ t, g_ro Γ a = some t ∧ va_T .int t ((x_sh0 (g_L Γ)).getD a (0, 0)).2 (fun j => .int (x_roI (g_xs Γ) a j)) (x_A Γ) U H) ∧
  va_Z "WhatDidYouSay" "ABOVE" "[I" (x_v Γ (.ref 2)) (x_A Γ) U H ∧ va_Z "WhatDidYouSay" "LEAST" "[I" (x_v Γ (.ref 3)) (x_A Γ) U H ∧ va_Z "WhatDidYouSay" "MOST" "[I" (x_v Γ (.ref 4)) (x_A Γ) U H ∧
  va_Z "java/lang/String" "COMPACT_STRINGS" "Z" (.int 1) (x_A Γ) U H ∧
  va_Z "jdk/internal/util/Preconditions" "SIOOBE_FORMATTER" "Ljava/util/function/BiFunction;" (x_v Γ (.ref 19)) (x_A Γ) U H ∧
  (∀ i, i < 7 → ∃ a v, g_ro Γ (5 + i) = some a ∧ g_ro Γ (12 + i) = some v ∧ vk_R RX5 (137 + 2 * i) (x_str i) a U ∧ va_O "java/lang/String" a (x_A Γ) U H ∧ va_OF "java/lang/String" "coder" "B" (.int 0) a (x_A Γ) U H ∧ va_OF "java/lang/String" "value" "[B" (.ref v) a (x_A Γ) U H ∧ va_T .byte v ((x_sh0 (g_L Γ)).getD (12 + i) (0, 0)).2 (fun j => .int (x_roI (g_xs Γ) (12 + i) j)) (x_A Γ) U H) ∧
  (∀ q ∈ x_nestM, va_Nw (.methodLinkNest q.1 q.2.1 q.2.2.1 q.2.2.2) U) ∧ (∀ q ∈ x_nestF, va_Nw (.fieldLinkNest q.1 q.2.1 q.2.2.1 q.2.2.2.1 q.2.2.2.2.1 q.2.2.2.2.2) U) ∧ va_AO RX2 U ∧ va_AO RX6 U
theorem x_U_to {Γ : XG} {s U : State} {H : Heap} {locs : List Loc} (h : x_U Γ s s.heap) (hS : va_S (x_A Γ) s.heap H locs) (hW : s.WarmedH U.vm) (hU : U.heap = H) : x_U Γ U U.heap := by
  obtain ⟨h1, h2, h3, h4, h5, h6, h7, h8, h9, h10, h11, h12, h13⟩ := h
  rw [hU]
  have ha := hW.alike
  refine ⟨h1.moved ha, h2, fun a g1 g2 => ?_, (h4.kept hS.2.1).moved ha, (h5.kept hS.2.1).moved ha, (h6.kept hS.2.1).moved ha, (h7.kept hS.2.1).moved ha, (h8.kept hS.2.1).moved ha, fun i hi => ?_, fun q hq => va_Nw.warmM hW (h10 q hq), fun q hq => va_Nw.warmF hW (h11 q hq), h12.moved ha, h13.moved ha⟩
  · obtain ⟨t, e1, e2⟩ := h3 a g1 g2
    exact ⟨t, e1, (e2.kept hS.2.1).moved ha⟩
  · obtain ⟨a, v, e1, e2, e3, e4, e5, e6, e7⟩ := h9 i hi
    exact ⟨a, v, e1, e2, e3.warm hW, (e4.kept hS.2.1).moved ha, (e5.kept hS.2.1).moved ha, (e6.kept hS.2.1).moved ha, (e7.kept hS.2.1).moved ha⟩
theorem x_U_call {Γ : XG} {U : State} {H : Heap} (g : JFrame) (mk : MethodId) (a : Array Value) (h : x_U Γ U H) : x_U Γ (U.calling g mk a) H := by
  obtain ⟨h1, h2, h3, h4, h5, h6, h7, h8, h9, h10, h11, h12, h13⟩ := h
  have ha : U.vm.Alike (U.calling g mk a).vm := Vm.Alike.refl U.vm
  refine ⟨h1.moved ha, h2, fun a g1 g2 => ?_, h4.moved ha, h5.moved ha, h6.moved ha, h7.moved ha, h8.moved ha, fun i hi => ?_, fun q hq => va_Nw.same rfl (rfl : U.vm = (U.calling g mk a).vm) (h10 q hq), fun q hq => va_Nw.same rfl (rfl : U.vm = (U.calling g mk a).vm) (h11 q hq), h12.moved ha, h13.moved ha⟩
  · obtain ⟨t, e1, e2⟩ := h3 a g1 g2
    exact ⟨t, e1, e2.moved ha⟩
  · obtain ⟨a', v, e1, e2, e3, e4, e5, e6, e7⟩ := h9 i hi
    exact ⟨a', v, e1, e2, e3.same rfl, e4.moved ha, e5.moved ha, e6.moved ha, e7.moved ha⟩
abbrev XU : Type := MethodName × ByteArray × Nat × Option FieldType
def x_rm (d mc ms : Nat) : Room := { frames := d, cells := mc, slots := ms, locals := 100 * d }
def x_wsm (μ : XU) : List Cond := .code μ.1 μ.2.1 μ.2.2.1 μ.2.2.2 :: x_TB
def x_Pc (Γ : XG) (as : List Value) (M : XM) : Array Value → State → Prop := va_Pc (as.map (x_v Γ)) (fun U => x_U Γ U U.heap ∧ x_H Γ M U.heap)
def x_Qc (Γ : XG) (Φ : Option Value → XM → Prop) : Array Value → State → Outcome → State → Prop := fun _ st oc t => ∃ (r : Option Value) (M : XM), oc = .returned (r.map (x_v Γ)) ∧ Φ r M ∧ x_H Γ M t.heap ∧ va_F (x_A Γ) st t
/-- a method's contract: from this memory, with these arguments, it returns, and what it answers and leaves is as Φ says -/
def Ct (l : Launch) (μ : XU) (d mc ms : Nat) (as : List Value) (M : XM) (Φ : Option Value → XM → Prop) : Prop := ∀ Γ : XG, Met l μ.1 (x_wsm μ) (x_rm d mc ms) (x_Pc Γ as M) (x_Qc Γ Φ) mc ms (x_A Γ)
def x_L (Γ : XG) (ls : Array Slot) (L : List (Option Value)) : Prop := ls.size = L.length ∧ lv_wf ls ∧ ∀ (i : Nat) (v : Value), L[i]? = some (some v) → ls[i]? = some (.val (x_v Γ v))
def x_C (μ : XU) (d mc ms : Nat) (p : Program) (Rm : Room) (s : State) (m : MethodId) (args : Array Value) (meth : Method) (c : Code) (Γ : XG) : Prop :=
  p.tables.exec = Jvm.exec ∧ c.code = μ.2.1 ∧ meth.sig.returnType = μ.2.2.2 ∧ c.maxLocals = μ.2.2.1 ∧ s.vm.findClass μ.1.cls = some m.cls ∧ (∀ w ∈ x_TB, w.before args s = true) ∧ meth.locks = false ∧ (μ.1.name = "<init>" → meth.name = "<init>") ∧ d ≤ Rm.frames ∧ 100 * d ≤ Rm.locals ∧ mc ≤ Rm.cells ∧ ms ≤ Rm.slots ∧ x_U Γ s s.heap
/-- the instruction that a method ends with, by what it answers -/
def x_RI (μ : XU) (pc : Nat) (r : Option Value) : Prop := match r with
  | none => decode μ.2.1 pc = .ok (.return_, 1) ∧ μ.2.2.2 = none
  | some (.int w) => decode μ.2.1 pc = .ok (.ireturn, 1) ∧ ∃ ty, μ.2.2.2 = some ty ∧ narrow ty (.int w) = .int w
  | some (.long _) => decode μ.2.1 pc = .ok (.lreturn, 1) ∧ μ.2.2.2 = some .long
  | some (.ref _) => decode μ.2.1 pc = .ok (.areturn, 1) ∧ ∃ ty, μ.2.2.2 = some ty ∧ ((∃ n, ty = .object n) ∨ ∃ t, ty = .array t)
  | _ => False
def x_F (l : Launch) (μ : XU) (mc ms : Nat) (Φ : Option Value → XM → Prop) (p : Program) (e : Env) (Rm : Room) (s : State) (m : MethodId) (args : Array Value) (below : List Frame) (meth : Method) (c : Code) (Γ : XG) (Qf : State → Prop) : Prop :=
  ∀ (r : Option Value) (M : XM) (H : Heap) (locs : List Loc) (u v pc : Nat) (ls : Array Slot), Φ r M → x_H Γ M H → va_S (x_A Γ) s.heap H locs → u ≤ mc → v ≤ ms → x_RI μ pc r →
    W p l e Rm s m args below meth c H locs u v Qf (F0 m pc ls (r.toList.map (x_v Γ)))
/-- from here the method comes to its end as Φ says -/
def AW (l : Launch) (μ : XU) (d mc ms : Nat) (Φ : Option Value → XM → Prop) (u v pc : Nat) (L : List (Option Value)) (S : List Value) (M : XM) : Prop :=
  ∀ (p : Program) (e : Env) (Rm : Room) (s : State) (m : MethodId) (args : Array Value) (below : List Frame) (meth : Method) (c : Code) (H : Heap) (locs : List Loc) (ls : Array Slot) (Γ : XG) (Qf : State → Prop),
    x_C μ d mc ms p Rm s m args meth c Γ → x_H Γ M H → va_S (x_A Γ) s.heap H locs → x_L Γ ls L → x_F l μ mc ms Φ p e Rm s m args below meth c Γ Qf →
    W p l e Rm s m args below meth c H locs u v Qf (F0 m pc ls (S.map (x_v Γ)))
theorem x_cat (Γ : XG) (w : Value) : (x_v Γ w).category = w.category := by
  cases w with
  | ref a =>
    show (va_rf (x_ad Γ a)).category = 1
    cases x_ad Γ a <;> rfl
  | _ => rfl
/-- a method's locals at its start -/
def x_mk : List Value → List (Option Value)
  | [] => []
  | w :: as => some w :: (if w.category = 2 then none :: x_mk as else x_mk as)
theorem x_mk_len (Γ : XG) : ∀ as : List Value, (x_mk as).length = (lg_sl (as.map (x_v Γ))).length
  | [] => rfl
  | w :: as => by
    have ih := x_mk_len Γ as
    unfold lg_sl at ih ⊢
    simp only [x_mk, List.map_cons, List.flatMap_cons, x_cat, List.length_append, List.length_cons]
    by_cases h : w.category = 2
    · simp [h, ih]; omega
    · simp [h, ih]; omega
theorem x_mk_at (Γ : XG) : ∀ (as : List Value) (o i : Nat) (w : Value), (x_mk as)[i]? = some (some w) → (o + i, x_v Γ w) ∈ lv_args o (as.map (x_v Γ))
  | [], _, _, _, h => by simp [x_mk] at h
  | z :: as, o, i, w, h => by
    simp only [x_mk, List.map_cons, lv_args, x_cat] at h ⊢
    cases i with
    | zero =>
      simp at h
      subst h
      exact List.mem_cons_self
    | succ i =>
      rw [List.getElem?_cons_succ] at h
      refine List.mem_cons_of_mem _ ?_
      by_cases hc : z.category = 2
      · rw [if_pos hc] at h
        cases i with
        | zero => simp at h
        | succ i =>
          rw [List.getElem?_cons_succ] at h
          rw [if_pos hc]
          have := x_mk_at Γ as (o + 2) i w h
          rwa [show o + 2 + i = o + (i + 1 + 1) by omega] at this
      · rw [if_neg hc] at h
        rw [if_neg hc]
        have := x_mk_at Γ as (o + 1) i w h
        rwa [show o + 1 + i = o + (i + 1) by omega] at this
theorem x_L_entry (Γ : XG) (as : List Value) (n : Nat) (L : List (Option Value)) (hL : L = x_mk as ++ List.replicate (n - (x_mk as).length) none) (hn : (x_mk as).length ≤ n) : x_L Γ ((lg_sl (as.map (x_v Γ)) ++ List.replicate (n - (lg_sl (as.map (x_v Γ))).length) Slot.unset).toArray) L := by
  have hn' : (lg_sl (as.map (x_v Γ))).length ≤ n := by rw [← x_mk_len]; exact hn
  obtain ⟨h1, h2, h3⟩ := lv_entry (as.map (x_v Γ)) hn'
  refine ⟨?_, h2, fun i w hw => ?_⟩
  · rw [h1, hL, List.length_append, List.length_replicate]
    omega
  · have hi : (x_mk as)[i]? = some (some w) := by
      rw [hL] at hw
      by_cases hl : i < (x_mk as).length
      · rwa [List.getElem?_append_left hl] at hw
      · rw [List.getElem?_append_right (by omega), List.getElem?_replicate] at hw
        split at hw <;> simp at hw
    have := h3 _ (x_mk_at Γ as 0 i w hi)
    simpa using this
theorem x_met (l : Launch) (μ : XU) (d mc ms : Nat) (as : List Value) (M : XM) (Φ : Option Value → XM → Prop) (L : List (Option Value)) (hy : plainName μ.1.cls = true) (hL : L = x_mk as ++ List.replicate (μ.2.2.1 - (x_mk as).length) none) (hn : (x_mk as).length ≤ μ.2.2.1) (h : AW l μ d mc ms Φ 0 0 0 L [] M) : Ct l μ d mc ms as M Φ := by
  intro Γ
  refine Met.ofW (cc := μ.2.1) (maxL := μ.2.2.1) (ret := μ.2.2.2) (ws' := x_TB) hy rfl ?_
  intro p e s m args below meth c s₁ B hml hv
  obtain ⟨rfl, hU, hH⟩ := hv
  have hts := atoms_spec (ws := x_wsm μ) B.pre
  rw [lg_entry_eq]
  refine h p e _ s m _ below meth c s.heap [] _ Γ _ ⟨B.exec, B.bytes, B.returns, hml, findClass_of_methodNamed B.named, fun w hw => hts w (List.mem_cons_of_mem _ hw), B.notSynchronized, fun hi => (name_of_methodNamed B.named B.method).1.trans hi, Nat.le_refl _, Nat.le_refl _, Nat.le_refl _, Nat.le_refl _, hU⟩ hH va_S.rf (x_L_entry Γ as μ.2.2.1 L hL hn) ?_
  intro r M' H locs u w pc ls hΦ hH' hS hu hw hR
  have hlocks := B.notSynchronized
  have hr := B.returns
  have hx := B.exec
  have hb := B.bytes
  refine W.widen hu hw ?_
  have hq : ∀ (t : State), t.heap = H → x_Qc Γ Φ (as.map (x_v Γ)).toArray s (.returned (r.map (x_v Γ))) t := fun t ht => ⟨r, M', rfl, hΦ, by rw [ht]; exact hH', hS.F ht⟩
  match r, hR, hq with
  | none, hR, hq => exact W.vret hx hb (hr.trans hR.2) (fun t ht hW => hq t ht) hS.2.2 hR.1
  | some (.int w'), hR, hq =>
    obtain ⟨h1, ty, h2, h3⟩ := hR
    exact W.zret hx hb (hr.trans h2) h3 (fun t ht hW => hq t ht) hS.2.2 h1
  | some (.long w'), hR, hq => exact W.lret hx hb (hr.trans hR.2) (fun t ht hW => hq t ht) hS.2.2 hR.1
  | some (.ref a), hR, hq =>
    obtain ⟨h1, ty, h2, h3⟩ := hR
    refine W.aret hx hb (hr.trans h2) h3 ?_ (fun t ht hW => hq t ht) hS.2.2 h1
    show va_rf (x_ad Γ a) = .null ∨ ∃ b, va_rf (x_ad Γ a) = .ref b
    cases x_ad Γ a with
    | none => exact Or.inl rfl
    | some b => exact Or.inr ⟨b, rfl⟩
