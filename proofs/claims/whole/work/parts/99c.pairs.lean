/-! PAIRS: each call on both sides -/
def Pr {α : Type} (B : Nat) (σ : XS) (f g : XM → Option (α × XM)) : Prop := ∃ (r : α) (σ' : XS), OpCS f σ r σ' ∧ OpM g σ r σ' ∧ WFS (B + 400) σ'
theorem OpC.S {α : Type} {f : XM → Option (α × XM)} {σ σ' : XS} {r : α} (h : OpC f σ r σ') : OpCS f σ r σ' := fun L b1 b2 M hG hI _ _ => h L b1 b2 M hG hI
theorem OpCT.S {α : Type} {f : XM → Option (α × XM)} {σ σ' : XS} {r : α} (h : OpCT f σ r σ') : OpCS f σ r σ' := fun L b1 b2 M hG hI hT _ => h L b1 b2 M hG hI hT
section
variable {B : Nat} {σ : XS}
theorem pr_put (hW : WFS B σ) (hB : B ≤ 800000) (c : Int32) (v : Int32) : Pr B σ (f_X8_put 20 c v) (f_X9_put 83 c v) :=
  ⟨_, _, (oc_put hW c v).S, (om_put hW c v), (wf_put hW c v).mono (by omega)⟩
theorem pr_tally (hW : WFS B σ) (hB : B ≤ 800000) (v : Int32) : Pr B σ (f_X8_tally 20 v) (f_X9_tally 83 v) :=
  ⟨_, _, (oc_tally hW v).S, (om_tally hW v), (wf_tally hW v).mono (by omega)⟩
theorem pr_forget (hW : WFS B σ) (hB : B ≤ 800000) : Pr B σ (f_X8_forget 20) (f_X9_forget 83) :=
  ⟨_, _, (oc_forget hW).S, (om_forget hW), (wf_forget hW).mono (by omega)⟩
theorem pr_seed (hW : WFS B σ) (hB : B ≤ 800000) (v : Int32) : Pr B σ (f_X8_seed 20 v) (f_X9_seed 83 v) :=
  ⟨_, _, (oc_seed hW v).S, (om_seed hW v), (wf_seed hW v).mono (by omega)⟩
theorem pr_fault (hW : WFS B σ) (hB : B ≤ 800000) : Pr B σ (f_X8_fault 20) (f_X9_fault 83) :=
  ⟨_, _, (oc_fault hW).S, (om_fault hW), (by
    have hM : WFS (B + 400) σ := hW.mono (by omega)
    unfold sp_fault
    repeat' split
    all_goals exact hM)⟩
theorem pr_counterOf (hW : WFS B σ) (hB : B ≤ 800000) (c : Int32) (w : Int32) : Pr B σ (f_X8_counterOf 20 c w) (f_X9_counterOf 83 c w) :=
  ⟨_, _, (oc_counterOf hW c w).S, (om_counterOf hW c w), (wf_counterOf hW c w).mono (by omega)⟩
theorem pr_again (hW : WFS B σ) (hB : B ≤ 800000) (c : Int32) : Pr B σ (f_X8_again 20 c) (f_X9_again 83 c) :=
  ⟨_, _, (oc_again hW c).S, (om_again hW c), (wf_again hW c).mono (by omega)⟩
theorem pr_counter (hW : WFS B σ) (hB : B ≤ 800000) (t : Int32) (a : Int32) : Pr B σ (f_X8_counter 20 t a) (f_X9_counter 83 t a) :=
  ⟨_, _, (oc_counter hW t a).S, (om_counter hW t a), (wf_counter hW t a).mono (by omega)⟩
theorem pr_trace (hW : WFS B σ) (hB : B ≤ 800000) (i : Int32) : Pr B σ (f_X8_trace 20 i) (f_X9_trace 83 i) :=
  ⟨_, _, (oc_trace hW i).S, (om_trace hW i), (wf_trace hW i).mono (by omega)⟩
theorem pr_holds (hW : WFS B σ) (hB : B ≤ 800000) (s : Int32) : Pr B σ (f_X8_holds 20 s) (f_X9_holds 83 s) :=
  ⟨_, _, (oc_holds hW s).S, (om_holds hW s), (wf_holds hW s).mono (by omega)⟩
theorem pr_element (hW : WFS B σ) (hB : B ≤ 800000) (s : Int32) (i : Int32) : Pr B σ (f_X8_element 20 s i) (f_X9_element 83 s i) :=
  ⟨_, _, (oc_element hW s i).S, (om_element hW s i), (wf_element hW s i).mono (by omega)⟩
theorem pr_back (hW : WFS B σ) (hB : B ≤ 800000) (c : Int32) : Pr B σ (f_X8_back 20 c) (f_X9_back 83 c) :=
  ⟨_, _, (oc_back hW hB c).S, (om_back hW hB c), (wf_back hW c).mono (by omega)⟩
theorem pr_asks (hW : WFS B σ) (hB : B ≤ 800000) (c : Int32) : Pr B σ (f_X8_asks 20 c) (f_X9_asks 83 c) :=
  ⟨_, _, (oc_asks hW hB c).S, (om_asks hW hB c), (wf_asks hW c)⟩
theorem pr_set (hW : WFS B σ) (hB : B ≤ 800000) (s : Int32) (i : Int32) (v : Int64) : Pr B σ (f_X8_set 20 s i v) (f_X9_set 83 s i v) :=
  ⟨_, _, (oc_set hW s i v).S, (om_set hW s i v), (wf_set hW s i v).mono (by omega)⟩
theorem pr_show (hW : WFS B σ) (hB : B ≤ 800000) (s : Int32) (v : Int32) : Pr B σ (f_X8_show 20 s v) (f_X9_show 83 s v) :=
  ⟨_, _, (oc_show hW s v).S, (om_show hW s v), (wf_show hW s v).mono (by omega)⟩
theorem pr_knits (hW : WFS B σ) (hB : B ≤ 800000) (c : Int32) (v : Int32) : Pr B σ (f_X8_knits 20 c v) (f_X9_knits 83 c v) :=
  ⟨_, _, (oc_knits hW c v).S, (om_knits hW c v), (wf_knits hW c v).mono (by omega)⟩
theorem pr_status (hW : WFS B σ) (hB : B ≤ 800000) (v : Int32) : Pr B σ (f_X8_status 20 v) (f_X9_status 83 v) :=
  ⟨_, _, (oc_status hW v).S, (om_status hW v), (wf_status hW v).mono (by omega)⟩
theorem pr_row (hW : WFS B σ) (hB : B ≤ 800000) (s : Int32) (t : Int32) (n : Int32) : Pr B σ (f_X8_row 20 s t n) (f_X9_row 83 s t n) :=
  ⟨_, _, (oc_row hW s t n).S, (om_row hW s t n), (wf_row hW s t n).mono (by omega)⟩
theorem pr_says (hW : WFS B σ) (hB : B ≤ 800000) (s : Int32) (t : Int32) : Pr B σ (f_X8_says 20 s t) (f_X9_says 83 s t) :=
  ⟨_, _, (oc_says hW s t).S, (om_says hW s t), (wf_says hW s t).mono (by omega)⟩
theorem pr_ask (hW : WFS B σ) (hB : B ≤ 800000) (w : Int32) (v : Int32) : Pr B σ (f_X8_ask 20 w v) (f_X9_ask 83 w v) :=
  ⟨_, _, (oc_ask hW w v).S, (om_ask hW w v), (wf_ask hW w v).mono (by omega)⟩
theorem pr_image (hW : WFS B σ) (hB : B ≤ 800000) : Pr B σ (f_X8_image 20) (f_X9_image 83) :=
  ⟨_, _, (oc_image).S, (om_image), (wf_image hW).mono (by omega)⟩
theorem pr_restore (hW : WFS B σ) (hB : B ≤ 800000) : Pr B σ (f_X8_restore 20) (f_X9_restore 83) :=
  ⟨_, _, (oc_restore hW).S, (om_restore hW), (wf_restore hW).mono (by omega)⟩
theorem pr_copy (hW : WFS B σ) (hB : B ≤ 800000) (p : Int32) (q : Int32) (i : Int32) (j : Int32) (n : Int32) : Pr B σ (f_X8_copy 20 p q i j n) (f_X9_copy 83 p q i j n) :=
  ⟨_, _, (oc_copy hW p q i j n).S, (om_copy hW p q i j n), (by
    have hM : WFS (B + 400) σ := hW.mono (by omega)
    unfold sp_copy
    repeat' split
    all_goals exact hM)⟩
theorem pr_tallies (hW : WFS B σ) (hB : B ≤ 800000) (v : Int32) : Pr B σ (f_X8_tallies 20 v) (f_X9_tallies 83 v) :=
  ⟨_, _, (oc_tallies hW v).S, (om_tallies hW v), (by
    have hM : WFS (B + 400) σ := hW.mono (by omega)
    unfold sp_tallies
    repeat' split
    all_goals exact hM)⟩
theorem pr_act (hW : WFS B σ) (hB : B ≤ 800000) (c : Int32) (w : Int32) (x : Int32) : Pr B σ (f_X8_act 20 c w x) (f_X9_act 83 c w x) :=
  ⟨_, _, (oc_act hW c w x).S, (om_act hW c w x), (wf_act hW c w x).mono (by omega)⟩
theorem pr_evenings (hW : WFS B σ) (hB : B ≤ 800000) (v : Int32) : Pr B σ (f_X8_evenings 20 v) (f_X9_evenings 83 v) :=
  ⟨_, _, (oc_evenings hW hB v).S, (om_evenings hW hB v), (wf_evenings hW v)⟩
theorem pr_through (hW : WFS B σ) (hB : B ≤ 800000) (c : Int32) (s : Int32) (n : Int32) : Pr B σ (f_X8_through 20 c s n) (f_X9_through 83 c s n) :=
  ⟨_, _, (oc_through hW hB c s n).S, (om_through hW hB c s n), (by
    have hM : WFS (B + 400) σ := hW.mono (by omega)
    unfold sp_through
    repeat' split
    all_goals exact hM)⟩
theorem pr_run (hW : WFS B σ) (hB : B ≤ 800000) (c : Int32) (s : Int32) (n : Int32) (t : Int32) (w : Int32) : Pr B σ (f_X8_run 20 c s n t w) (f_X9_run 83 c s n t w) :=
  ⟨_, _, (oc_run hW hB c s n t w).S, (om_run hW hB c s n t w), (by
    have hM : WFS (B + 400) σ := hW.mono (by omega)
    unfold sp_run
    repeat' split
    all_goals exact hM)⟩
theorem pr_quickest (hW : WFS B σ) (hB : B ≤ 800000) (s : Int32) (n : Int32) : Pr B σ (f_X8_quickest 20 s n) (f_X9_quickest 83 s n) :=
  ⟨_, _, (oc_quickest hW hB s n).S, (om_quickest hW hB s n), (by
    have hM : WFS (B + 400) σ := hW.mono (by omega)
    unfold sp_quickest
    repeat' split
    all_goals exact hM)⟩
theorem pr_parted (hW : WFS B σ) (hB : B ≤ 800000) (c : Int32) (e : Int32) (s : Int32) (t : Int32) (m : Int32) : Pr B σ (f_X8_parted 20 c e s t m) (f_X9_parted 83 c e s t m) :=
  ⟨_, _, (oc_parted hW hB c e s t m).S, (om_parted hW hB c e s t m), (by
    have hM : WFS (B + 400) σ := hW.mono (by omega)
    unfold sp_parted
    repeat' split
    all_goals exact hM)⟩
theorem pr_judge (hW : WFS B σ) (hB : B ≤ 800000) (c : Int32) (s : Int32) (n : Int32) : Pr B σ (f_X8_judge 20 c s n) (f_X9_judge 83 c s n) :=
  ⟨_, _, (oc_judge hW hB c s n).S, (om_judge hW hB c s n), (by
    have hM : WFS (B + 400) σ := hW.mono (by omega)
    unfold sp_judge
    repeat' split
    all_goals exact hM)⟩
theorem pr_breaks (hW : WFS B σ) (hB : B ≤ 800000) (c : Int32) (s : Int32) (n : Int32) : Pr B σ (f_X8_breaks 20 c s n) (f_X9_breaks 83 c s n) :=
  ⟨_, _, (oc_breaks hW hB c s n).S, (om_breaks hW hB c s n), (by
    have hM : WFS (B + 400) σ := hW.mono (by omega)
    unfold sp_breaks
    repeat' split
    all_goals exact hM)⟩
theorem pr_when (hW : WFS B σ) (hB : B ≤ 800000) (c : Int32) (t : Int32) (w : Int32) : Pr B σ (f_X8_when 20 c t w) (f_X9_when 83 c t w) :=
  ⟨_, _, (oc_when hW hB c t w).S, (om_when hW hB c t w), (by
    have hM : WFS (B + 400) σ := hW.mono (by omega)
    unfold sp_when
    repeat' split
    all_goals exact hM)⟩
theorem pr_longest (hW : WFS B σ) (hB : B ≤ 800000) (c : Int32) (b : Int32) : Pr B σ (f_X8_longest 20 c b) (f_X9_longest 83 c b) :=
  ⟨_, _, (oc_longest hW hB c b).S, (om_longest hW hB c b), (by
    have hM : WFS (B + 400) σ := hW.mono (by omega)
    unfold sp_longest
    repeat' split
    all_goals exact hM)⟩
theorem pr_fits (hW : WFS B σ) (hB : B ≤ 800000) (c : Int32) (t : Int32) : Pr B σ (f_X8_fits 20 c t) (f_X9_fits 83 c t) :=
  ⟨_, _, (oc_fits hW hB c t).S, (om_fits hW hB c t), (by
    have hM : WFS (B + 400) σ := hW.mono (by omega)
    unfold sp_fits
    repeat' split
    all_goals exact hM)⟩
theorem pr_chance (hW : WFS B σ) (hB : B ≤ 800000) (c : Int32) (t : Int32) : Pr B σ (f_X8_chance 20 c t) (f_X9_chance 83 c t) :=
  ⟨_, _, (oc_chance hW hB c t).S, (om_chance hW hB c t), (by
    have hM : WFS (B + 400) σ := hW.mono (by omega)
    unfold sp_chance
    repeat' split
    all_goals exact hM)⟩
theorem pr_median (hW : WFS B σ) (hB : B ≤ 800000) (c : Int32) (v : Int32) : Pr B σ (f_X8_median 20 c v) (f_X9_median 83 c v) :=
  ⟨_, _, (oc_median hW hB c v).S, (om_median hW hB c v), (by
    have hM : WFS (B + 400) σ := hW.mono (by omega)
    unfold sp_median
    repeat' split
    all_goals exact hM)⟩
theorem pr_surest (hW : WFS B σ) (hB : B ≤ 800000) (t : Int32) : Pr B σ (f_X8_surest 20 t) (f_X9_surest 83 t) :=
  ⟨_, _, (oc_surest hW hB t).S, (om_surest hW hB t), (by
    have hM : WFS (B + 400) σ := hW.mono (by omega)
    unfold sp_surest
    repeat' split
    all_goals exact hM)⟩
theorem pr_bestApart (hW : WFS B σ) (hB : B ≤ 800000) (c : Int32) (v : Int32) : Pr B σ (f_X8_bestApart 20 c v) (f_X9_bestApart 83 c v) :=
  ⟨_, _, (oc_bestApart hW hB c v).S, (om_bestApart hW hB c v), (by
    have hM : WFS (B + 400) σ := hW.mono (by omega)
    unfold sp_bestApart
    repeat' split
    all_goals exact hM)⟩
theorem pr_room (hW : WFS B σ) (hB : B ≤ 800000) (s : Int32) : Pr B σ (f_X8_room 20 s) (f_X9_room 83 s) :=
  ⟨_, _, (oc_room hW hB s), (om_room hW hB s), (wf_room hW s)⟩
end
