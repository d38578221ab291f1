section
variable {l : Launch} {μ : XU} {d mc ms : Nat} {Φ : Option Value → XM → Prop} {u v : Nat} {L : List (Option Value)} {S : List Value} {M : XM}
/-- behind a call -/
theorem x_after {p : Program} {e : Env} {Rm : Room} {s : State} {m : MethodId} {args : Array Value} {below : List Frame} {meth : Method} {c : Code} {H : Heap} {locs : List Loc} {ls : Array Slot} {Γ : XG} {Qf : State → Prop} {pc mc' ms' : Nat} {st0 rest : List Value} {Φ' : Option Value → XM → Prop} {a : Array Value}
    (hr : va_Run p l e Rm s m args below meth c H locs u v mc' ms' (F0 m pc ls st0) rest (x_Qc Γ Φ' a) (x_A Γ)) (hS : va_S (x_A Γ) s.heap H locs)
    (kk : ∀ (r : Option Value) (M1 : XM) (H1 : Heap) (locs1 : List Loc), Φ' r M1 → x_H Γ M1 H1 → va_S (x_A Γ) s.heap H1 locs1 → W p l e Rm s m args below meth c H1 locs1 (u + mc') (v + ms') Qf (F0 m (pc + 3) ls (r.toList.map (x_v Γ) ++ rest))) : W p l e Rm s m args below meth c H locs u v Qf (F0 m pc ls st0) := by
  intro T hT X
  obtain ⟨w, st₀, t, T', L, h0, X', hL, e1, e2, ⟨r, M1, hv, hp, hb, hz, hk⟩, st⟩ := hr T hT X
  cases hv
  rw [h0] at hz hk
  obtain ⟨t2, a1, b1⟩ := kk r M1 T'.heap (locs ++ L) hp (by rw [e1]; exact hb)
    ⟨Nat.le_trans hS.1 (by rw [e1]; exact hz), fun q h1 h2 => by rw [e1, hk q (Nat.lt_of_lt_of_le h1 hS.1) h2]; exact hS.2.1 q h1 h2, fun q hq => by
      rcases List.mem_append.mp hq with h | h
      · exact hS.2.2 q h
      · exact hL q h⟩ T' rfl X'
  refine ⟨t2, st t2 ?_, b1⟩
  cases r <;> exact a1
theorem x_blind (Γ : XG) (as : List Value) (M : XM) : FrameBlind (x_Pc Γ as M) := fun a U g mk q => by
  obtain ⟨q1, q2, q3⟩ := q
  exact ⟨q1, x_U_call g mk a q2, q3⟩
/-- what is checked of a callee -/
def x_cok (μ' : XU) (n d d' : Nat) : Prop := (μ'.1.cls ≠ "java/lang/invoke/MethodHandle" ∧ μ'.1.cls ≠ "java/lang/invoke/VarHandle" ∧ (parseMethodDescriptor μ'.1.desc).map (fun q => q.parameters.length) = some n) ∧ d' + 1 ≤ d ∧ μ'.2.2.1 ≤ 81
theorem x_mapAs (Γ : XG) (as S : List Value) : (as.reverse ++ S).map (x_v Γ) = (as.map (x_v Γ)).reverse ++ S.map (x_v Γ) := by simp
theorem x_catS (Γ : XG) (S : List Value) (h : (S.map fun w => w.category).sum ≤ 8) : 2 * 0 + ((S.map (x_v Γ)).map fun w => w.category).sum ≤ 8 := by
  rw [List.map_map, show ((fun w : Value => w.category) ∘ x_v Γ) = (fun w => w.category) from funext (fun w => x_cat Γ w)]
  omega
theorem x_callS (pc idx : Nat) {μ' : XU} {d' mc' ms' : Nat} (as S : List Value) {Φ' : Option Value → XM → Prop} (hd : decode μ.2.1 pc = .ok (.invokestatic idx, 3)) (hC : Ct l μ' d' mc' ms' as M Φ') (hl : Cond.methodLink μ.1.cls idx μ'.1 ∈ x_TB) (hst : Cond.static μ'.1 ∈ x_TB) (hi : Cond.initialized μ'.1.cls ∈ x_TB) (hc : Cond.code μ'.1 μ'.2.1 μ'.2.2.1 μ'.2.2.2 ∈ x_TB) (hk0 : x_cok μ' as.length d d') (hLn : L.length = μ.2.2.1) (hS8 : (S.map fun w => w.category).sum ≤ 8) (hu : u + mc' ≤ mc) (hv : v + ms' ≤ ms)
    (k : ∀ r M1, Φ' r M1 → AW l μ d mc ms Φ (u + mc') (v + ms') (pc + 3) L (r.toList ++ S) M1) : AW l μ d mc ms Φ u v pc L (as.reverse ++ S) M := by
  intro p e Rm s m args below meth c H locs ls Γ Qf C hH hS hL F
  obtain ⟨hx, hb, -, hml, hown0, hts, -, -, hfr, hlo, hmc, hms, hU⟩ := id C
  obtain ⟨hn, hdd, hmx⟩ := hk0
  rw [x_mapAs]
  have hR : (x_rm d' mc' ms').frames + 1 ≤ Rm.frames ∧ 8 + (μ'.2.2.1 + 11) + (x_rm d' mc' ms').locals ≤ Rm.locals := ⟨by show d' + 1 ≤ _; omega, by show 8 + (_ + 11) + 100 * d' ≤ _; omega⟩
  refine x_after (va_runS (As := as.map (x_v Γ)) (rest := S.map (x_v Γ)) (Ts := x_TB) (own := μ.1.cls) (nL := μ.2.2.1) (y := μ'.1) (bytes := μ'.2.1) (maxL := μ'.2.2.1) (ret := μ'.2.2.2) (n := as.length) ⟨hx, hb, hml, hown0, hts⟩ (hC Γ) ⟨callB_of (ws' := x_TB) as.length hts (x_TB_good hc) rfl rfl rfl (hts _ hi) (hts _ hl) hn hR, hts _ hst⟩ ⟨x_blind Γ as M, fun U hUH hW => ⟨rfl, x_U_to hU hS hW hUH, by rw [hUH]; exact hH⟩⟩ rfl (by simp) (by show ls.size = _; rw [hL.1]; exact hLn) rfl (x_catS Γ S hS8) hd ⟨by omega, by omega⟩) hS ?_
  intro r M1 H1 locs1 h1 h2 h3
  have hk := k r M1 h1 p e Rm s m args below meth c H1 locs1 ls Γ Qf C h2 h3 hL F
  rw [List.map_append] at hk
  exact hk
theorem x_callSN (pc idx : Nat) {μ' : XU} {d' mc' ms' : Nat} (as S : List Value) {Φ' : Option Value → XM → Prop} (hd : decode μ.2.1 pc = .ok (.invokestatic idx, 3)) (hC : Ct l μ' d' mc' ms' as M Φ') {host : String} (hl : (μ.1.cls, idx, μ'.1, host) ∈ x_nestM) (hst : Cond.static μ'.1 ∈ x_TB) (hi : Cond.initialized μ'.1.cls ∈ x_TB) (hc : Cond.code μ'.1 μ'.2.1 μ'.2.2.1 μ'.2.2.2 ∈ x_TB) (hk0 : x_cok μ' as.length d d') (hLn : L.length = μ.2.2.1) (hS8 : (S.map fun w => w.category).sum ≤ 8) (hu : u + mc' ≤ mc) (hv : v + ms' ≤ ms)
    (k : ∀ r M1, Φ' r M1 → AW l μ d mc ms Φ (u + mc') (v + ms') (pc + 3) L (r.toList ++ S) M1) : AW l μ d mc ms Φ u v pc L (as.reverse ++ S) M := by
  intro p e Rm s m args below meth c H locs ls Γ Qf C hH hS hL F
  obtain ⟨hx, hb, -, hml, hown0, hts, -, -, hfr, hlo, hmc, hms, hU⟩ := id C
  obtain ⟨hn, hdd, hmx⟩ := hk0
  rw [x_mapAs]
  have hR : (x_rm d' mc' ms').frames + 1 ≤ Rm.frames ∧ 8 + (μ'.2.2.1 + 11) + (x_rm d' mc' ms').locals ≤ Rm.locals := ⟨by show d' + 1 ≤ _; omega, by show 8 + (_ + 11) + 100 * d' ≤ _; omega⟩
  refine x_after (va_runSN (As := as.map (x_v Γ)) (rest := S.map (x_v Γ)) (Ts := x_TB) (own := μ.1.cls) (nL := μ.2.2.1) (y := μ'.1) (bytes := μ'.2.1) (maxL := μ'.2.2.1) (ret := μ'.2.2.2) (n := as.length) ⟨hx, hb, hml, hown0, hts⟩ (hC Γ) ⟨va_cnB (ws' := x_TB) as.length hts (x_TB_good hc) rfl rfl rfl (hU.2.2.2.2.2.2.2.2.2.1 _ hl) (hts _ hi) hn hR, hts _ hst, trivial⟩ ⟨x_blind Γ as M, fun U hUH hW => ⟨rfl, x_U_to hU hS hW hUH, by rw [hUH]; exact hH⟩⟩ rfl (by simp) (by show ls.size = _; rw [hL.1]; exact hLn) rfl (x_catS Γ S hS8) hd ⟨by omega, by omega⟩) hS ?_
  intro r M1 H1 locs1 h1 h2 h3
  have hk := k r M1 h1 p e Rm s m args below meth c H1 locs1 ls Γ Qf C h2 h3 hL F
  rw [List.map_append] at hk
  exact hk
theorem x_callV (pc idx : Nat) {μ' : XU} {d' mc' ms' : Nat} (ci : Nat) {a : Nat} (as S : List Value) {Φ' : Option Value → XM → Prop} (hd : decode μ.2.1 pc = .ok (.invokevirtual idx, 3)) (hC : Ct l μ' d' mc' ms' (.ref a :: as) M Φ') (hl : Cond.methodLink μ.1.cls idx μ'.1 ∈ x_TB) (hin : Cond.instanceMethod μ'.1 ∈ x_TB) (hse : Cond.selects (x_R ci) μ'.1 μ'.1 ∈ x_TB) (hci : ci < 10) (ht : x_tag M a = ci + 10) (hi : Cond.initialized μ'.1.cls ∈ x_TB) (hc : Cond.code μ'.1 μ'.2.1 μ'.2.2.1 μ'.2.2.2 ∈ x_TB) (hk0 : x_cok μ' as.length d d') (hLn : L.length = μ.2.2.1) (hS8 : (S.map fun w => w.category).sum ≤ 8) (hu : u + mc' ≤ mc) (hv : v + ms' ≤ ms)
    (k : ∀ r M1, Φ' r M1 → AW l μ d mc ms Φ (u + mc') (v + ms') (pc + 3) L (r.toList ++ S) M1) : AW l μ d mc ms Φ u v pc L (as.reverse ++ .ref a :: S) M := by
  intro p e Rm s m args below meth c H locs ls Γ Qf C hH hS hL F
  obtain ⟨hx, hb, -, hml, hown0, hts, -, -, hfr, hlo, hmc, hms, hU⟩ := id C
  obtain ⟨hn, hdd, hmx⟩ := hk0
  rw [x_mapAs, List.map_cons]
  have ho := x_ownC hH ht
  rw [x_v_own ho.1]
  have he := x_ws_at (Γ := Γ) ho.1 ho.2
  rw [x_cell_obj hci ht] at he
  have hrv := va_recv (tys := x_tys Γ) hU.1 hH.2.2.1 (x_cl ci hci) he
  have hR : (x_rm d' mc' ms').frames + 1 ≤ Rm.frames ∧ 8 + (μ'.2.2.1 + 11) + (x_rm d' mc' ms').locals ≤ Rm.locals := ⟨by show d' + 1 ≤ _; omega, by show 8 + (_ + 11) + 100 * d' ≤ _; omega⟩
  refine x_after (va_runV (As := as.map (x_v Γ)) (rest := S.map (x_v Γ)) (Ts := x_TB) (own := μ.1.cls) (nL := μ.2.2.1) (y := μ'.1) (bytes := μ'.2.1) (maxL := μ'.2.2.1) (ret := μ'.2.2.2) (n := as.length) ⟨hx, hb, hml, hown0, hts⟩ (hC Γ) ⟨callB_of (ws' := x_TB) as.length hts (x_TB_good hc) rfl rfl rfl (hts _ hi) (hts _ hl) hn hR, hts _ hin, hts _ hse⟩ ⟨x_blind Γ (.ref a :: as) M, hrv, fun U hUH hW => ⟨by rw [List.map_cons, x_v_own ho.1], x_U_to hU hS hW hUH, by rw [hUH]; exact hH⟩⟩ rfl (by simp) (by show ls.size = _; rw [hL.1]; exact hLn) rfl (x_catS Γ S hS8) hd ⟨by omega, by omega⟩) hS ?_
  intro r M1 H1 locs1 h1 h2 h3
  have hk := k r M1 h1 p e Rm s m args below meth c H1 locs1 ls Γ Qf C h2 h3 hL F
  rw [List.map_append] at hk
  exact hk
theorem x_callVS (pc idx : Nat) {μ' : XU} {d' mc' ms' : Nat} {a : Nat} (as S : List Value) {Φ' : Option Value → XM → Prop} (hd : decode μ.2.1 pc = .ok (.invokevirtual idx, 3)) (hC : Ct l μ' d' mc' ms' (.ref a :: as) M Φ') (hl : Cond.methodLink μ.1.cls idx μ'.1 ∈ x_TB) (hin : Cond.instanceMethod μ'.1 ∈ x_TB) (hse : Cond.selects "java/lang/String" μ'.1 μ'.1 ∈ x_TB) (ht : x_tag M a = 7) (ha : a < 20) (hi : Cond.initialized μ'.1.cls ∈ x_TB) (hc : Cond.code μ'.1 μ'.2.1 μ'.2.2.1 μ'.2.2.2 ∈ x_TB) (hk0 : x_cok μ' as.length d d') (hLn : L.length = μ.2.2.1) (hS8 : (S.map fun w => w.category).sum ≤ 8) (hu : u + mc' ≤ mc) (hv : v + ms' ≤ ms)
    (k : ∀ r M1, Φ' r M1 → AW l μ d mc ms Φ (u + mc') (v + ms') (pc + 3) L (r.toList ++ S) M1) : AW l μ d mc ms Φ u v pc L (as.reverse ++ .ref a :: S) M := by
  intro p e Rm s m args below meth c H locs ls Γ Qf C hH hS hL F
  obtain ⟨hx, hb, -, hml, hown0, hts, -, -, hfr, hlo, hmc, hms, hU⟩ := id C
  obtain ⟨hn, hdd, hmx⟩ := hk0
  rw [x_mapAs, List.map_cons]
  obtain ⟨i0, hi0, hai⟩ := x_ro7 hH ht ha
  obtain ⟨t0, w0, e1, e2, e3, e4, -⟩ := hU.2.2.2.2.2.2.2.2.1 i0 hi0
  have hvv : x_v Γ (.ref a) = .ref t0 := by rw [hai]; exact x_vro (by omega) e1
  rw [hvv]
  have hrv : ∃ cell : Cell, H[t0]? = some cell ∧ cell.vm.isStatics = false ∧ s.vm.findClass "java/lang/String" = some cell.cls := by
    obtain ⟨cell, h1, h2, h3, -⟩ := e4.kept hS.2.1
    exact ⟨cell, h1, h2, h3⟩
  have hR : (x_rm d' mc' ms').frames + 1 ≤ Rm.frames ∧ 8 + (μ'.2.2.1 + 11) + (x_rm d' mc' ms').locals ≤ Rm.locals := ⟨by show d' + 1 ≤ _; omega, by show 8 + (_ + 11) + 100 * d' ≤ _; omega⟩
  refine x_after (va_runV (As := as.map (x_v Γ)) (rest := S.map (x_v Γ)) (Ts := x_TB) (own := μ.1.cls) (nL := μ.2.2.1) (y := μ'.1) (bytes := μ'.2.1) (maxL := μ'.2.2.1) (ret := μ'.2.2.2) (n := as.length) ⟨hx, hb, hml, hown0, hts⟩ (hC Γ) ⟨callB_of (ws' := x_TB) as.length hts (x_TB_good hc) rfl rfl rfl (hts _ hi) (hts _ hl) hn hR, hts _ hin, hts _ hse⟩ ⟨x_blind Γ (.ref a :: as) M, hrv, fun U hUH hW => ⟨by rw [List.map_cons, hvv], x_U_to hU hS hW hUH, by rw [hUH]; exact hH⟩⟩ rfl (by simp) (by show ls.size = _; rw [hL.1]; exact hLn) rfl (x_catS Γ S hS8) hd ⟨by omega, by omega⟩) hS ?_
  intro r M1 H1 locs1 h1 h2 h3
  have hk := k r M1 h1 p e Rm s m args below meth c H1 locs1 ls Γ Qf C h2 h3 hL F
  rw [List.map_append] at hk
  exact hk
theorem x_callI (pc idx : Nat) {μ' : XU} {d' mc' ms' : Nat} {ci : Nat} {a : Nat} (as S : List Value) {Φ' : Option Value → XM → Prop} (hd : decode μ.2.1 pc = .ok (.invokespecial idx, 3)) (hC : Ct l μ' d' mc' ms' (.ref a :: as) M Φ') (hl : Cond.methodLink μ.1.cls idx μ'.1 ∈ x_TB) (hret : μ'.2.2.2 = none) (hnm : μ'.1.name = "<init>") (hin : Cond.instanceMethod μ'.1 ∈ x_TB) (ht : x_tag M a = ci + 10) (hi : Cond.initialized μ'.1.cls ∈ x_TB) (hc : Cond.code μ'.1 μ'.2.1 μ'.2.2.1 μ'.2.2.2 ∈ x_TB) (hk0 : x_cok μ' as.length d d') (hLn : L.length = μ.2.2.1) (hS8 : (S.map fun w => w.category).sum ≤ 8) (hu : u + mc' ≤ mc) (hv : v + ms' ≤ ms)
    (k : ∀ r M1, Φ' r M1 → AW l μ d mc ms Φ (u + mc') (v + ms') (pc + 3) L (r.toList ++ S) M1) : AW l μ d mc ms Φ u v pc L (as.reverse ++ .ref a :: S) M := by
  intro p e Rm s m args below meth c H locs ls Γ Qf C hH hS hL F
  obtain ⟨hx, hb, -, hml, hown0, hts, -, -, hfr, hlo, hmc, hms, hU⟩ := id C
  obtain ⟨hn, hdd, hmx⟩ := hk0
  rw [x_mapAs, List.map_cons]
  have ho := x_ownC hH ht
  rw [x_v_own ho.1]
  have hwI : x_wsm μ' = Cond.code μ'.1 μ'.2.1 μ'.2.2.1 none :: x_TB := by unfold x_wsm; rw [hret]
  have hR : (x_rm d' mc' ms').frames + 1 ≤ Rm.frames ∧ 8 + (μ'.2.2.1 + 11) + (x_rm d' mc' ms').locals ≤ Rm.locals := ⟨by show d' + 1 ≤ _; omega, by show 8 + (_ + 11) + 100 * d' ≤ _; omega⟩
  refine x_after (va_runI (As := as.map (x_v Γ)) (rest := S.map (x_v Γ)) (Ts := x_TB) (own := μ.1.cls) (nL := μ.2.2.1) (y := μ'.1) (bytes := μ'.2.1) (maxL := μ'.2.2.1) (n := as.length) ⟨hx, hb, hml, hown0, hts⟩ (hC Γ) ⟨callB_of (ws := x_wsm μ') (ws' := x_TB) as.length hts (x_TB_good hc) hwI rfl rfl (hts _ hi) (hts _ hl) hn hR, hnm, hts _ hin⟩ ⟨x_blind Γ (.ref a :: as) M, fun U hUH hW => ⟨by rw [List.map_cons, x_v_own ho.1], x_U_to hU hS hW hUH, by rw [hUH]; exact hH⟩⟩ rfl (by simp) (by show ls.size = _; rw [hL.1]; exact hLn) rfl (x_catS Γ S hS8) hd ⟨by omega, by omega⟩) hS ?_
  intro r M1 H1 locs1 h1 h2 h3
  have hk := k r M1 h1 p e Rm s m args below meth c H1 locs1 ls Γ Qf C h2 h3 hL F
  rw [List.map_append] at hk
  exact hk
theorem x_callIN (pc idx : Nat) {μ' : XU} {d' mc' ms' : Nat} {ci : Nat} {a : Nat} (as S : List Value) {Φ' : Option Value → XM → Prop} (hd : decode μ.2.1 pc = .ok (.invokespecial idx, 3)) (hC : Ct l μ' d' mc' ms' (.ref a :: as) M Φ') {host : String} (hl : (μ.1.cls, idx, μ'.1, host) ∈ x_nestM) (hret : μ'.2.2.2 = none) (hnm : μ'.1.name = "<init>") (hin : Cond.instanceMethod μ'.1 ∈ x_TB) (ht : x_tag M a = ci + 10) (hi : Cond.initialized μ'.1.cls ∈ x_TB) (hc : Cond.code μ'.1 μ'.2.1 μ'.2.2.1 μ'.2.2.2 ∈ x_TB) (hk0 : x_cok μ' as.length d d') (hLn : L.length = μ.2.2.1) (hS8 : (S.map fun w => w.category).sum ≤ 8) (hu : u + mc' ≤ mc) (hv : v + ms' ≤ ms)
    (k : ∀ r M1, Φ' r M1 → AW l μ d mc ms Φ (u + mc') (v + ms') (pc + 3) L (r.toList ++ S) M1) : AW l μ d mc ms Φ u v pc L (as.reverse ++ .ref a :: S) M := by
  intro p e Rm s m args below meth c H locs ls Γ Qf C hH hS hL F
  obtain ⟨hx, hb, -, hml, hown0, hts, -, -, hfr, hlo, hmc, hms, hU⟩ := id C
  obtain ⟨hn, hdd, hmx⟩ := hk0
  rw [x_mapAs, List.map_cons]
  have ho := x_ownC hH ht
  rw [x_v_own ho.1]
  have hwI : x_wsm μ' = Cond.code μ'.1 μ'.2.1 μ'.2.2.1 none :: x_TB := by unfold x_wsm; rw [hret]
  have hR : (x_rm d' mc' ms').frames + 1 ≤ Rm.frames ∧ 8 + (μ'.2.2.1 + 11) + (x_rm d' mc' ms').locals ≤ Rm.locals := ⟨by show d' + 1 ≤ _; omega, by show 8 + (_ + 11) + 100 * d' ≤ _; omega⟩
  refine x_after (va_runIN (As := as.map (x_v Γ)) (rest := S.map (x_v Γ)) (Ts := x_TB) (own := μ.1.cls) (nL := μ.2.2.1) (y := μ'.1) (bytes := μ'.2.1) (maxL := μ'.2.2.1) (n := as.length) ⟨hx, hb, hml, hown0, hts⟩ (hC Γ) ⟨va_cnB (ws := x_wsm μ') (ws' := x_TB) as.length hts (x_TB_good hc) hwI rfl rfl (hU.2.2.2.2.2.2.2.2.2.1 _ hl) (hts _ hi) hn hR, hnm, hts _ hin⟩ ⟨x_blind Γ (.ref a :: as) M, fun U hUH hW => ⟨by rw [List.map_cons, x_v_own ho.1], x_U_to hU hS hW hUH, by rw [hUH]; exact hH⟩⟩ rfl (by simp) (by show ls.size = _; rw [hL.1]; exact hLn) rfl (x_catS Γ S hS8) hd ⟨by omega, by omega⟩) hS ?_
  intro r M1 H1 locs1 h1 h2 h3
  have hk := k r M1 h1 p e Rm s m args below meth c H1 locs1 ls Γ Qf C h2 h3 hL F
  rw [List.map_append] at hk
  exact hk
theorem x_objInit (pc idx : Nat) {a ci : Nat} (hd : decode μ.2.1 pc = .ok (.invokespecial idx, 3)) (hl : Cond.methodLink μ.1.cls idx Lib.objectInit ∈ x_TB) (hin : Cond.instanceMethod Lib.objectInit ∈ x_TB) (hc : Cond.code Lib.objectInit ⟨#[0xb1]⟩ 1 none ∈ x_TB) (ht : x_tag M a = ci + 10) (hLn : L.length = μ.2.2.1) (hS8 : (S.map fun w => w.category).sum ≤ 8) (hdd : 1 ≤ d) (k : AW l μ d mc ms Φ u v (pc + 3) L S M) : AW l μ d mc ms Φ u v pc L (.ref a :: S) M := by
  intro p e Rm s m args below meth c H locs ls Γ Qf C hH hS hL F
  obtain ⟨hx, hb, -, hml, hown0, hts, -, -, hfr, hlo, hmc, hms, hU⟩ := id C
  have ho := x_ownC hH ht
  rw [List.map_cons, x_v_own ho.1]
  have h8 := x_catS Γ S hS8
  exact W.objInit hx hb hown0 (hts _ hl) (hts _ hin) (hts _ hc) rfl (by show ls.size = _; rw [hL.1, hml]; exact hLn) rfl hd (by omega) (by show 2 * 0 + _ + 12 ≤ _; omega) (k p e Rm s m args below meth c H locs ls Γ Qf C hH hS hL F)
theorem x_min (pc idx : Nat) {x y : Int32} (hd : decode μ.2.1 pc = .ok (.invokestatic idx, 3)) (hl : Cond.methodLink μ.1.cls idx Lib.Math.min.name ∈ x_TB) (hst : Cond.static Lib.Math.min.name ∈ x_TB) (hi : Cond.initialized "java/lang/Math" ∈ x_TB) (hc : Cond.code Lib.Math.min.name Lib.Math.min.code 2 (some .int) ∈ x_TB) (hLn : L.length = μ.2.2.1) (hS8 : (S.map fun w => w.category).sum ≤ 8) (hdd : 1 ≤ d) (hu : u ≤ mc) (hv : v ≤ ms) (k : AW l μ d mc ms Φ u v (pc + 3) L (.int (if y < x then y else x) :: S) M) : AW l μ d mc ms Φ u v pc L (.int y :: .int x :: S) M := by
  intro p e Rm s m args below meth c H locs ls Γ Qf C hH hS hL F
  obtain ⟨hx, hb, -, hml, hown0, hts, -, -, hfr, hlo, hmc, hms, hU⟩ := id C
  have h8 := x_catS Γ S hS8
  exact va_mmin hx hb (by rw [hL.1, hml]; exact hLn.symm) hown0 (hts _ hl) (hts _ hst) (hts _ hi) (hts _ hc) (by omega) (by omega) (by omega) (by omega) hd (k p e Rm s m args below meth c H locs ls Γ Qf C hH hS hL F)
theorem x_max (pc idx : Nat) {x y : Int32} (hd : decode μ.2.1 pc = .ok (.invokestatic idx, 3)) (hl : Cond.methodLink μ.1.cls idx Lib.Math.max.name ∈ x_TB) (hst : Cond.static Lib.Math.max.name ∈ x_TB) (hi : Cond.initialized "java/lang/Math" ∈ x_TB) (hc : Cond.code Lib.Math.max.name Lib.Math.max.code 2 (some .int) ∈ x_TB) (hLn : L.length = μ.2.2.1) (hS8 : (S.map fun w => w.category).sum ≤ 8) (hdd : 1 ≤ d) (hu : u ≤ mc) (hv : v ≤ ms) (k : AW l μ d mc ms Φ u v (pc + 3) L (.int (if x < y then y else x) :: S) M) : AW l μ d mc ms Φ u v pc L (.int y :: .int x :: S) M := by
  intro p e Rm s m args below meth c H locs ls Γ Qf C hH hS hL F
  obtain ⟨hx, hb, -, hml, hown0, hts, -, -, hfr, hlo, hmc, hms, hU⟩ := id C
  have h8 := x_catS Γ S hS8
  exact va_mmax hx hb (by rw [hL.1, hml]; exact hLn.symm) hown0 (hts _ hl) (hts _ hst) (hts _ hi) (hts _ hc) (by omega) (by omega) (by omega) (by omega) hd (k p e Rm s m args below meth c H locs ls Γ Qf C hH hS hL F)
theorem x_ri {w : Int32} {M1 : XM} {d mc ms u v pc : Nat} (h : AW l μ d mc ms Φ u v pc L (.int w :: S) M1) : ∀ r M', x_Ri (w, M1) r M' → AW l μ d mc ms Φ u v pc L (r.toList ++ S) M' := by
  rintro r M' ⟨rfl, rfl⟩
  exact h
theorem x_rl {w : Int64} {M1 : XM} {d mc ms u v pc : Nat} (h : AW l μ d mc ms Φ u v pc L (.long w :: S) M1) : ∀ r M', x_Rl (w, M1) r M' → AW l μ d mc ms Φ u v pc L (r.toList ++ S) M' := by
  rintro r M' ⟨rfl, rfl⟩
  exact h
theorem x_ra {w : Nat} {M1 : XM} {d mc ms u v pc : Nat} (h : AW l μ d mc ms Φ u v pc L (.ref w :: S) M1) : ∀ r M', x_Ra (w, M1) r M' → AW l μ d mc ms Φ u v pc L (r.toList ++ S) M' := by
  rintro r M' ⟨rfl, rfl⟩
  exact h
theorem x_rv {M1 : XM} {d mc ms u v pc : Nat} (h : AW l μ d mc ms Φ u v pc L S M1) : ∀ r M', x_Rv M1 r M' → AW l μ d mc ms Φ u v pc L (r.toList ++ S) M' := by
  rintro r M' ⟨rfl, rfl⟩
  exact h
end
