/-! the model: changes by calls -/
def gv1_1_X6_sets (mf : Nat → Int32) : Nat → Int32 := chF mf
def gv1_2_X6_sets (mf : Nat → Int32) (ms : Nat → Int32) (mp : Nat → Int32) : Nat → Int32 := chP mf ms mp
def sr_X6_sets (ms : Nat → Int32) (W : Nat) : Int32 := ms W
def sw0_X6_sets (mf : Nat → Int32) : Nat → Int32 := (gv1_1_X6_sets mf)
def sw1_X6_sets (ms : Nat → Int32) (p2 : Int32) (W : Nat) : Nat → Int32 := upd ms W p2
def sw2_X6_sets (mf : Nat → Int32) (ms : Nat → Int32) (mp : Nat → Int32) : Nat → Int32 := (gv1_2_X6_sets mf ms mp)
abbrev po_X6_sets (cI cC cL : ClassId) (m0 m1 m2 m3 m4 m5 m6 : Nat) (mf ms mp : Nat → Int32) (p1 : Int32) (p2 : Int32) (W : Nat) (hwi : p1 = nI W ∧ W < 89) (hc : cq mf) : Int32 → va_W → Prop := fun r w' => sr_X6_sets ms W = r ∧ [oM m0 m1 m2 m3 m4 m5 m6 (sw0_X6_sets mf), aI cI m1 89 (sw1_X6_sets ms p2 W), aI cI m2 356 (sw2_X6_sets mf ms mp)] = w'
set_option maxHeartbeats 4000000 in
set_option maxRecDepth 100000 in
theorem ct_X6_sets (l : Launch) (D : va_G) (cI cC cL : ClassId) (m0 m1 m2 m3 m4 m5 m6 : Nat) (mf ms mp : Nat → Int32) (p1 : Int32) (p2 : Int32) (W : Nat) (hwi : p1 = nI W ∧ W < 89) (hc : cq mf) : ag_MI l yX6_sets cX6_sets 4 .int 1 21 D cI cC cL [.ref m0, .int p1, .int p2] [oM m0 m1 m2 m3 m4 m5 m6 mf, aI cI m1 89 ms, aI cI m2 356 mp] (po_X6_sets cI cC cL m0 m1 m2 m3 m4 m5 m6 mf ms mp p1 p2 W hwi hc) := by
  refine ag_MI.of (plainFor_of_name (by decide)) (Nat.le_of_ble_eq_true rfl) ?_
  intro p e s m below meth c hx hb hr hlocks hml hown hmn hG hK A hN hA H locs hP hD hS ls hl
  have hl : lv_has ls 4 [(0, .ref m0), (1, .int p1), (2, .int p2)] := hl
  refine lv_aload_n hx hb dX6_sets_0 rfl (lv_at hl 0 rfl) ?_
  refine ag_callVv (As := []) (rest := []) hx hb hml hown hG hK hN hA hP hD hS hl (ct_X6_changes l D cI cC cL m0 m1 m2 m3 m4 m5 m6 mf ms mp hc) fX6_changes k_614 ag_cut_all (q0 := 0) rfl rfl rfl rfl (Nat.le_of_ble_eq_true rfl) ⟨Nat.le_of_ble_eq_true rfl, Nat.le_of_ble_eq_true rfl⟩ ⟨Nat.zero_le _, Nat.zero_le _⟩ dX6_sets_1 (fun w1 H locs hw hP hD hS => ?_)
  have hw : _ = w1 := hw
  generalize eg1_1 : chF mf = g1_1 at hw
  replace eg1_1 : gv1_1_X6_sets mf = g1_1 := (by rw [← eg1_1]; rfl)
  generalize eg1_2 : chP mf ms mp = g1_2 at hw
  replace eg1_2 : gv1_2_X6_sets mf ms mp = g1_2 := (by rw [← eg1_2]; rfl)
  subst hw
  have hP : va_P D vwCl [oM m0 m1 m2 m3 m4 m5 m6 g1_1, aI cI m1 89 ms, aI cI m2 356 g1_2] H := hP
  have hD : va_D A [oM m0 m1 m2 m3 m4 m5 m6 g1_1, aI cI m1 89 ms, aI cI m2 356 g1_2] := hD
  refine lv_aload_n hx hb dX6_sets_4 rfl (lv_at hl 0 rfl) ?_
  refine ag_getX6 (v := .ref m1) hx hb hG hown hK hP 0 0 rfl (by decide) k_536 rfl dX6_sets_5 ?_
  refine lv_iload_n hx hb dX6_sets_8 rfl (lv_at hl 1 rfl) ?_
  refine ag_ild (k := W) (v := ms W) hx hb hK hP 1 rfl hwi.1 hwi.2 (Nat.le_of_ble_eq_true rfl) rfl dX6_sets_9 ?_
  refine lv_istore_n (lv' := [(3, .int (ms W)), (0, .ref m0), (1, .int p1), (2, .int p2)]) hx hb dX6_sets_10 rfl hl (by decide) rfl (fun ls hl => ?_)
  refine lv_aload_n hx hb dX6_sets_11 rfl (lv_at hl 1 rfl) ?_
  refine ag_getX6 (v := .ref m1) hx hb hG hown hK hP 0 0 rfl (by decide) k_536 rfl dX6_sets_12 ?_
  refine lv_iload_n hx hb dX6_sets_15 rfl (lv_at hl 2 rfl) ?_
  refine lv_iload_n hx hb dX6_sets_16 rfl (lv_at hl 3 rfl) ?_
  refine ag_ist (k := W) hx hb hK hP hD hS 1 rfl hwi.1 hwi.2 (Nat.le_of_ble_eq_true rfl) dX6_sets_17 (fun H locs hP hD hS => ?_)
  have hP : va_P D vwCl [oM m0 m1 m2 m3 m4 m5 m6 g1_1, aI cI m1 89 (upd ms W p2), aI cI m2 356 g1_2] H := hP
  have hD : va_D A [oM m0 m1 m2 m3 m4 m5 m6 g1_1, aI cI m1 89 (upd ms W p2), aI cI m2 356 g1_2] := hD
  refine lv_iload_n hx hb dX6_sets_18 rfl (lv_at hl 0 rfl) ?_
  revert hP; revert hD; revert hS; revert hl
  subst eg1_2
  subst eg1_1
  intro hl hS hD hP
  exact ag_iret [m0, m1, m2] hx hb hr rfl hlocks hP hS rfl rfl ⟨rfl, (by show _ = _; rw [show sw0_X6_sets mf = (gv1_1_X6_sets mf) from rfl, show sw1_X6_sets ms p2 W = upd ms W p2 from rfl, show sw2_X6_sets mf ms mp = (gv1_2_X6_sets mf ms mp) from rfl])⟩ dX6_sets_19
def gv13_1_X6_gates (mf : Nat → Int32) : Nat → Int32 := sw0_X6_sets mf
def gv13_2_X6_gates (ms : Nat → Int32) (p1 : Int32) : Nat → Int32 := sw1_X6_sets ms p1 3
def gv13_3_X6_gates (mf : Nat → Int32) (ms : Nat → Int32) (mp : Nat → Int32) : Nat → Int32 := sw2_X6_sets mf ms mp
def sr_X6_gates (ms : Nat → Int32) (p1 : Int32) : Int32 := if (sr_X6_in p1 0 8) = 0 then (-1000000001) else sr_X6_sets ms 3
def sw0_X6_gates (mf : Nat → Int32) (p1 : Int32) : Nat → Int32 := if (sr_X6_in p1 0 8) = 0 then mf else (gv13_1_X6_gates mf)
def sw1_X6_gates (ms : Nat → Int32) (p1 : Int32) : Nat → Int32 := if (sr_X6_in p1 0 8) = 0 then ms else (gv13_2_X6_gates ms p1)
def sw2_X6_gates (mf : Nat → Int32) (ms : Nat → Int32) (mp : Nat → Int32) (p1 : Int32) : Nat → Int32 := if (sr_X6_in p1 0 8) = 0 then mp else (gv13_3_X6_gates mf ms mp)
abbrev po_X6_gates (cI cC cL : ClassId) (m0 m1 m2 m3 m4 m5 m6 : Nat) (mf ms mp : Nat → Int32) (p1 : Int32) (hc : cq mf) : Int32 → va_W → Prop := fun r w' => sr_X6_gates ms p1 = r ∧ [oM m0 m1 m2 m3 m4 m5 m6 (sw0_X6_gates mf p1), aI cI m1 89 (sw1_X6_gates ms p1), aI cI m2 356 (sw2_X6_gates mf ms mp p1)] = w'
set_option maxHeartbeats 4000000 in
set_option maxRecDepth 100000 in
theorem ct_X6_gates (l : Launch) (D : va_G) (cI cC cL : ClassId) (m0 m1 m2 m3 m4 m5 m6 : Nat) (mf ms mp : Nat → Int32) (p1 : Int32) (hc : cq mf) : ag_MI l yX6_gates cX6_gates 2 .int 2 44 D cI cC cL [.ref m0, .int p1] [oM m0 m1 m2 m3 m4 m5 m6 mf, aI cI m1 89 ms, aI cI m2 356 mp] (po_X6_gates cI cC cL m0 m1 m2 m3 m4 m5 m6 mf ms mp p1 hc) := by
  refine ag_MI.of (plainFor_of_name (by decide)) (Nat.le_of_ble_eq_true rfl) ?_
  intro p e s m below meth c hx hb hr hlocks hml hown hmn hG hK A hN hA H locs hP hD hS ls hl
  have hl : lv_has ls 2 [(0, .ref m0), (1, .int p1)] := hl
  refine lv_iload_n hx hb dX6_gates_0 rfl (lv_at hl 1 rfl) ?_
  refine lv_iconst (v := 0) hx hb dX6_gates_1 (by decide) ?_
  refine lv_bipush (v := 8) hx hb dX6_gates_2 (by decide) ?_
  refine ag_callSi (As := [.int p1, .int 0, .int 8]) (rest := []) hx hb hml hown hG hK hN hA hP hD hS hl (ct_X6_in l D cI cC cL p1 0 8) fX6_in k_607 ag_cut_0 rfl (Nat.le_of_ble_eq_true rfl) ⟨Nat.le_of_ble_eq_true rfl, Nat.le_of_ble_eq_true rfl⟩ ⟨Nat.zero_le _, Nat.zero_le _⟩ dX6_gates_4 (fun r w1 H locs hw hP hD hS => ?_)
  obtain ⟨rfl, hw⟩ := hw
  subst hw
  have hP : va_P D vwCl [oM m0 m1 m2 m3 m4 m5 m6 mf, aI cI m1 89 ms, aI cI m2 356 mp] H := hP
  have hD : va_D A [oM m0 m1 m2 m3 m4 m5 m6 mf, aI cI m1 89 ms, aI cI m2 356 mp] := hD
  refine lv_if_eq (tgt := 19) hx hb dX6_gates_7 (by decide) (fun c_7 => ?_) (fun c_7 => ?_)
  · refine lv_ldc (v := (-1000000001)) hx hb hown (hG _ k_618) dX6_gates_19 ?_
    exact ag_iret [m0, m1, m2] hx hb hr rfl hlocks hP hS rfl rfl ⟨(by unfold sr_X6_gates; rw [if_pos c_7]), (by show _ = _; rw [show sw0_X6_gates mf p1 = mf from (by unfold sw0_X6_gates; rw [if_pos c_7]), show sw1_X6_gates ms p1 = ms from (by unfold sw1_X6_gates; rw [if_pos c_7]), show sw2_X6_gates mf ms mp p1 = mp from (by unfold sw2_X6_gates; rw [if_pos c_7])])⟩ dX6_gates_21
  · refine lv_aload_n hx hb dX6_gates_10 rfl (lv_at hl 0 rfl) ?_
    refine lv_iconst (v := 3) hx hb dX6_gates_11 (by decide) ?_
    refine lv_iload_n hx hb dX6_gates_12 rfl (lv_at hl 1 rfl) ?_
    refine ag_callVi (As := [.int 3, .int p1]) (rest := []) hx hb hml hown hG hK hN hA hP hD hS hl (ct_X6_sets l D cI cC cL m0 m1 m2 m3 m4 m5 m6 mf ms mp 3 p1 3 (⟨rfl, by decide⟩) hc) fX6_sets k_610 ag_cut_all (q0 := 0) rfl rfl rfl rfl (Nat.le_of_ble_eq_true rfl) ⟨Nat.le_of_ble_eq_true rfl, Nat.le_of_ble_eq_true rfl⟩ ⟨Nat.zero_le _, Nat.zero_le _⟩ dX6_gates_13 (fun r w1 H locs hw hP hD hS => ?_)
    obtain ⟨rfl, hw⟩ := hw
    generalize eg13_1 : sw0_X6_sets mf = g13_1 at hw
    replace eg13_1 : gv13_1_X6_gates mf = g13_1 := (by rw [← eg13_1]; rfl)
    generalize eg13_2 : sw1_X6_sets ms p1 3 = g13_2 at hw
    replace eg13_2 : gv13_2_X6_gates ms p1 = g13_2 := (by rw [← eg13_2]; rfl)
    generalize eg13_3 : sw2_X6_sets mf ms mp = g13_3 at hw
    replace eg13_3 : gv13_3_X6_gates mf ms mp = g13_3 := (by rw [← eg13_3]; rfl)
    subst hw
    have hP : va_P D vwCl [oM m0 m1 m2 m3 m4 m5 m6 g13_1, aI cI m1 89 g13_2, aI cI m2 356 g13_3] H := hP
    have hD : va_D A [oM m0 m1 m2 m3 m4 m5 m6 g13_1, aI cI m1 89 g13_2, aI cI m2 356 g13_3] := hD
    refine lv_goto (tgt := 21) hx hb dX6_gates_16 (by decide) ?_
    revert hP; revert hD; revert hS; revert hl
    subst eg13_3
    subst eg13_2
    subst eg13_1
    intro hl hS hD hP
    exact ag_iret [m0, m1, m2] hx hb hr rfl hlocks hP hS rfl rfl ⟨(by unfold sr_X6_gates; rw [if_neg c_7]), (by show _ = _; rw [show sw0_X6_gates mf p1 = (gv13_1_X6_gates mf) from (by unfold sw0_X6_gates; rw [if_neg c_7]), show sw1_X6_gates ms p1 = (gv13_2_X6_gates ms p1) from (by unfold sw1_X6_gates; rw [if_neg c_7]), show sw2_X6_gates mf ms mp p1 = (gv13_3_X6_gates mf ms mp) from (by unfold sw2_X6_gates; rw [if_neg c_7])])⟩ dX6_gates_21
def gv13_1_X6_turbines (mf : Nat → Int32) : Nat → Int32 := sw0_X6_sets mf
def gv13_2_X6_turbines (ms : Nat → Int32) (p1 : Int32) : Nat → Int32 := sw1_X6_sets ms p1 4
def gv13_3_X6_turbines (mf : Nat → Int32) (ms : Nat → Int32) (mp : Nat → Int32) : Nat → Int32 := sw2_X6_sets mf ms mp
def sr_X6_turbines (ms : Nat → Int32) (p1 : Int32) : Int32 := if (sr_X6_in p1 0 6) = 0 then (-1000000001) else sr_X6_sets ms 4
def sw0_X6_turbines (mf : Nat → Int32) (p1 : Int32) : Nat → Int32 := if (sr_X6_in p1 0 6) = 0 then mf else (gv13_1_X6_turbines mf)
def sw1_X6_turbines (ms : Nat → Int32) (p1 : Int32) : Nat → Int32 := if (sr_X6_in p1 0 6) = 0 then ms else (gv13_2_X6_turbines ms p1)
def sw2_X6_turbines (mf : Nat → Int32) (ms : Nat → Int32) (mp : Nat → Int32) (p1 : Int32) : Nat → Int32 := if (sr_X6_in p1 0 6) = 0 then mp else (gv13_3_X6_turbines mf ms mp)
abbrev po_X6_turbines (cI cC cL : ClassId) (m0 m1 m2 m3 m4 m5 m6 : Nat) (mf ms mp : Nat → Int32) (p1 : Int32) (hc : cq mf) : Int32 → va_W → Prop := fun r w' => sr_X6_turbines ms p1 = r ∧ [oM m0 m1 m2 m3 m4 m5 m6 (sw0_X6_turbines mf p1), aI cI m1 89 (sw1_X6_turbines ms p1), aI cI m2 356 (sw2_X6_turbines mf ms mp p1)] = w'
set_option maxHeartbeats 4000000 in
set_option maxRecDepth 100000 in
theorem ct_X6_turbines (l : Launch) (D : va_G) (cI cC cL : ClassId) (m0 m1 m2 m3 m4 m5 m6 : Nat) (mf ms mp : Nat → Int32) (p1 : Int32) (hc : cq mf) : ag_MI l yX6_turbines cX6_turbines 2 .int 2 44 D cI cC cL [.ref m0, .int p1] [oM m0 m1 m2 m3 m4 m5 m6 mf, aI cI m1 89 ms, aI cI m2 356 mp] (po_X6_turbines cI cC cL m0 m1 m2 m3 m4 m5 m6 mf ms mp p1 hc) := by
  refine ag_MI.of (plainFor_of_name (by decide)) (Nat.le_of_ble_eq_true rfl) ?_
  intro p e s m below meth c hx hb hr hlocks hml hown hmn hG hK A hN hA H locs hP hD hS ls hl
  have hl : lv_has ls 2 [(0, .ref m0), (1, .int p1)] := hl
  refine lv_iload_n hx hb dX6_turbines_0 rfl (lv_at hl 1 rfl) ?_
  refine lv_iconst (v := 0) hx hb dX6_turbines_1 (by decide) ?_
  refine lv_bipush (v := 6) hx hb dX6_turbines_2 (by decide) ?_
  refine ag_callSi (As := [.int p1, .int 0, .int 6]) (rest := []) hx hb hml hown hG hK hN hA hP hD hS hl (ct_X6_in l D cI cC cL p1 0 6) fX6_in k_607 ag_cut_0 rfl (Nat.le_of_ble_eq_true rfl) ⟨Nat.le_of_ble_eq_true rfl, Nat.le_of_ble_eq_true rfl⟩ ⟨Nat.zero_le _, Nat.zero_le _⟩ dX6_turbines_4 (fun r w1 H locs hw hP hD hS => ?_)
  obtain ⟨rfl, hw⟩ := hw
  subst hw
  have hP : va_P D vwCl [oM m0 m1 m2 m3 m4 m5 m6 mf, aI cI m1 89 ms, aI cI m2 356 mp] H := hP
  have hD : va_D A [oM m0 m1 m2 m3 m4 m5 m6 mf, aI cI m1 89 ms, aI cI m2 356 mp] := hD
  refine lv_if_eq (tgt := 19) hx hb dX6_turbines_7 (by decide) (fun c_7 => ?_) (fun c_7 => ?_)
  · refine lv_ldc (v := (-1000000001)) hx hb hown (hG _ k_618) dX6_turbines_19 ?_
    exact ag_iret [m0, m1, m2] hx hb hr rfl hlocks hP hS rfl rfl ⟨(by unfold sr_X6_turbines; rw [if_pos c_7]), (by show _ = _; rw [show sw0_X6_turbines mf p1 = mf from (by unfold sw0_X6_turbines; rw [if_pos c_7]), show sw1_X6_turbines ms p1 = ms from (by unfold sw1_X6_turbines; rw [if_pos c_7]), show sw2_X6_turbines mf ms mp p1 = mp from (by unfold sw2_X6_turbines; rw [if_pos c_7])])⟩ dX6_turbines_21
  · refine lv_aload_n hx hb dX6_turbines_10 rfl (lv_at hl 0 rfl) ?_
    refine lv_iconst (v := 4) hx hb dX6_turbines_11 (by decide) ?_
    refine lv_iload_n hx hb dX6_turbines_12 rfl (lv_at hl 1 rfl) ?_
    refine ag_callVi (As := [.int 4, .int p1]) (rest := []) hx hb hml hown hG hK hN hA hP hD hS hl (ct_X6_sets l D cI cC cL m0 m1 m2 m3 m4 m5 m6 mf ms mp 4 p1 4 (⟨rfl, by decide⟩) hc) fX6_sets k_610 ag_cut_all (q0 := 0) rfl rfl rfl rfl (Nat.le_of_ble_eq_true rfl) ⟨Nat.le_of_ble_eq_true rfl, Nat.le_of_ble_eq_true rfl⟩ ⟨Nat.zero_le _, Nat.zero_le _⟩ dX6_turbines_13 (fun r w1 H locs hw hP hD hS => ?_)
    obtain ⟨rfl, hw⟩ := hw
    generalize eg13_1 : sw0_X6_sets mf = g13_1 at hw
    replace eg13_1 : gv13_1_X6_turbines mf = g13_1 := (by rw [← eg13_1]; rfl)
    generalize eg13_2 : sw1_X6_sets ms p1 4 = g13_2 at hw
    replace eg13_2 : gv13_2_X6_turbines ms p1 = g13_2 := (by rw [← eg13_2]; rfl)
    generalize eg13_3 : sw2_X6_sets mf ms mp = g13_3 at hw
    replace eg13_3 : gv13_3_X6_turbines mf ms mp = g13_3 := (by rw [← eg13_3]; rfl)
    subst hw
    have hP : va_P D vwCl [oM m0 m1 m2 m3 m4 m5 m6 g13_1, aI cI m1 89 g13_2, aI cI m2 356 g13_3] H := hP
    have hD : va_D A [oM m0 m1 m2 m3 m4 m5 m6 g13_1, aI cI m1 89 g13_2, aI cI m2 356 g13_3] := hD
    refine lv_goto (tgt := 21) hx hb dX6_turbines_16 (by decide) ?_
    revert hP; revert hD; revert hS; revert hl
    subst eg13_3
    subst eg13_2
    subst eg13_1
    intro hl hS hD hP
    exact ag_iret [m0, m1, m2] hx hb hr rfl hlocks hP hS rfl rfl ⟨(by unfold sr_X6_turbines; rw [if_neg c_7]), (by show _ = _; rw [show sw0_X6_turbines mf p1 = (gv13_1_X6_turbines mf) from (by unfold sw0_X6_turbines; rw [if_neg c_7]), show sw1_X6_turbines ms p1 = (gv13_2_X6_turbines ms p1) from (by unfold sw1_X6_turbines; rw [if_neg c_7]), show sw2_X6_turbines mf ms mp p1 = (gv13_3_X6_turbines mf ms mp) from (by unfold sw2_X6_turbines; rw [if_neg c_7])])⟩ dX6_turbines_21
def gv16_1_X6_pump (mf : Nat → Int32) : Nat → Int32 := sw0_X6_sets mf
def gv16_2_X6_pump (ms : Nat → Int32) (p1 : Int32) : Nat → Int32 := sw1_X6_sets ms p1 5
def gv16_3_X6_pump (mf : Nat → Int32) (ms : Nat → Int32) (mp : Nat → Int32) : Nat → Int32 := sw2_X6_sets mf ms mp
def sr_X6_pump (ms : Nat → Int32) (p1 : Int32) : Int32 := if (sr_X6_in p1 (-500) 500) = 0 then (-1000000001) else sr_X6_sets ms 5
def sw0_X6_pump (mf : Nat → Int32) (p1 : Int32) : Nat → Int32 := if (sr_X6_in p1 (-500) 500) = 0 then mf else (gv16_1_X6_pump mf)
def sw1_X6_pump (ms : Nat → Int32) (p1 : Int32) : Nat → Int32 := if (sr_X6_in p1 (-500) 500) = 0 then ms else (gv16_2_X6_pump ms p1)
def sw2_X6_pump (mf : Nat → Int32) (ms : Nat → Int32) (mp : Nat → Int32) (p1 : Int32) : Nat → Int32 := if (sr_X6_in p1 (-500) 500) = 0 then mp else (gv16_3_X6_pump mf ms mp)
abbrev po_X6_pump (cI cC cL : ClassId) (m0 m1 m2 m3 m4 m5 m6 : Nat) (mf ms mp : Nat → Int32) (p1 : Int32) (hc : cq mf) : Int32 → va_W → Prop := fun r w' => sr_X6_pump ms p1 = r ∧ [oM m0 m1 m2 m3 m4 m5 m6 (sw0_X6_pump mf p1), aI cI m1 89 (sw1_X6_pump ms p1), aI cI m2 356 (sw2_X6_pump mf ms mp p1)] = w'
set_option maxHeartbeats 4000000 in
set_option maxRecDepth 100000 in
theorem ct_X6_pump (l : Launch) (D : va_G) (cI cC cL : ClassId) (m0 m1 m2 m3 m4 m5 m6 : Nat) (mf ms mp : Nat → Int32) (p1 : Int32) (hc : cq mf) : ag_MI l yX6_pump cX6_pump 2 .int 2 44 D cI cC cL [.ref m0, .int p1] [oM m0 m1 m2 m3 m4 m5 m6 mf, aI cI m1 89 ms, aI cI m2 356 mp] (po_X6_pump cI cC cL m0 m1 m2 m3 m4 m5 m6 mf ms mp p1 hc) := by
  refine ag_MI.of (plainFor_of_name (by decide)) (Nat.le_of_ble_eq_true rfl) ?_
  intro p e s m below meth c hx hb hr hlocks hml hown hmn hG hK A hN hA H locs hP hD hS ls hl
  have hl : lv_has ls 2 [(0, .ref m0), (1, .int p1)] := hl
  refine lv_iload_n hx hb dX6_pump_0 rfl (lv_at hl 1 rfl) ?_
  refine lv_sipush (v := (-500)) hx hb dX6_pump_1 (by decide) ?_
  refine lv_sipush (v := 500) hx hb dX6_pump_4 (by decide) ?_
  refine ag_callSi (As := [.int p1, .int (-500), .int 500]) (rest := []) hx hb hml hown hG hK hN hA hP hD hS hl (ct_X6_in l D cI cC cL p1 (-500) 500) fX6_in k_607 ag_cut_0 rfl (Nat.le_of_ble_eq_true rfl) ⟨Nat.le_of_ble_eq_true rfl, Nat.le_of_ble_eq_true rfl⟩ ⟨Nat.zero_le _, Nat.zero_le _⟩ dX6_pump_7 (fun r w1 H locs hw hP hD hS => ?_)
  obtain ⟨rfl, hw⟩ := hw
  subst hw
  have hP : va_P D vwCl [oM m0 m1 m2 m3 m4 m5 m6 mf, aI cI m1 89 ms, aI cI m2 356 mp] H := hP
  have hD : va_D A [oM m0 m1 m2 m3 m4 m5 m6 mf, aI cI m1 89 ms, aI cI m2 356 mp] := hD
  refine lv_if_eq (tgt := 22) hx hb dX6_pump_10 (by decide) (fun c_10 => ?_) (fun c_10 => ?_)
  · refine lv_ldc (v := (-1000000001)) hx hb hown (hG _ k_618) dX6_pump_22 ?_
    exact ag_iret [m0, m1, m2] hx hb hr rfl hlocks hP hS rfl rfl ⟨(by unfold sr_X6_pump; rw [if_pos c_10]), (by show _ = _; rw [show sw0_X6_pump mf p1 = mf from (by unfold sw0_X6_pump; rw [if_pos c_10]), show sw1_X6_pump ms p1 = ms from (by unfold sw1_X6_pump; rw [if_pos c_10]), show sw2_X6_pump mf ms mp p1 = mp from (by unfold sw2_X6_pump; rw [if_pos c_10])])⟩ dX6_pump_24
  · refine lv_aload_n hx hb dX6_pump_13 rfl (lv_at hl 0 rfl) ?_
    refine lv_iconst (v := 5) hx hb dX6_pump_14 (by decide) ?_
    refine lv_iload_n hx hb dX6_pump_15 rfl (lv_at hl 1 rfl) ?_
    refine ag_callVi (As := [.int 5, .int p1]) (rest := []) hx hb hml hown hG hK hN hA hP hD hS hl (ct_X6_sets l D cI cC cL m0 m1 m2 m3 m4 m5 m6 mf ms mp 5 p1 5 (⟨rfl, by decide⟩) hc) fX6_sets k_610 ag_cut_all (q0 := 0) rfl rfl rfl rfl (Nat.le_of_ble_eq_true rfl) ⟨Nat.le_of_ble_eq_true rfl, Nat.le_of_ble_eq_true rfl⟩ ⟨Nat.zero_le _, Nat.zero_le _⟩ dX6_pump_16 (fun r w1 H locs hw hP hD hS => ?_)
    obtain ⟨rfl, hw⟩ := hw
    generalize eg16_1 : sw0_X6_sets mf = g16_1 at hw
    replace eg16_1 : gv16_1_X6_pump mf = g16_1 := (by rw [← eg16_1]; rfl)
    generalize eg16_2 : sw1_X6_sets ms p1 5 = g16_2 at hw
    replace eg16_2 : gv16_2_X6_pump ms p1 = g16_2 := (by rw [← eg16_2]; rfl)
    generalize eg16_3 : sw2_X6_sets mf ms mp = g16_3 at hw
    replace eg16_3 : gv16_3_X6_pump mf ms mp = g16_3 := (by rw [← eg16_3]; rfl)
    subst hw
    have hP : va_P D vwCl [oM m0 m1 m2 m3 m4 m5 m6 g16_1, aI cI m1 89 g16_2, aI cI m2 356 g16_3] H := hP
    have hD : va_D A [oM m0 m1 m2 m3 m4 m5 m6 g16_1, aI cI m1 89 g16_2, aI cI m2 356 g16_3] := hD
    refine lv_goto (tgt := 24) hx hb dX6_pump_19 (by decide) ?_
    revert hP; revert hD; revert hS; revert hl
    subst eg16_3
    subst eg16_2
    subst eg16_1
    intro hl hS hD hP
    exact ag_iret [m0, m1, m2] hx hb hr rfl hlocks hP hS rfl rfl ⟨(by unfold sr_X6_pump; rw [if_neg c_10]), (by show _ = _; rw [show sw0_X6_pump mf p1 = (gv16_1_X6_pump mf) from (by unfold sw0_X6_pump; rw [if_neg c_10]), show sw1_X6_pump ms p1 = (gv16_2_X6_pump ms p1) from (by unfold sw1_X6_pump; rw [if_neg c_10]), show sw2_X6_pump mf ms mp p1 = (gv16_3_X6_pump mf ms mp) from (by unfold sw2_X6_pump; rw [if_neg c_10])])⟩ dX6_pump_24
def gv26_1_X6_birds (mf : Nat → Int32) : Nat → Int32 := chF mf
def gv26_2_X6_birds (mf : Nat → Int32) (ms : Nat → Int32) (mp : Nat → Int32) : Nat → Int32 := chP mf ms mp
def sr_X6_birds (p1 : Int32) (p2 : Int32) : Int32 := if (sr_X6_in p1 0 143) = 0 then (-1000000001) else if (sr_X6_in p2 0 144) = 0 then (-1000000001) else if p2 ≤ p1 then 0 else p2 - p1
def sw0_X6_birds (mf : Nat → Int32) (p1 : Int32) (p2 : Int32) : Nat → Int32 := if (sr_X6_in p1 0 143) = 0 then mf else if (sr_X6_in p2 0 144) = 0 then mf else (gv26_1_X6_birds mf)
def sw1_X6_birds (ms : Nat → Int32) (p1 : Int32) (p2 : Int32) : Nat → Int32 := if (sr_X6_in p1 0 143) = 0 then ms else if (sr_X6_in p2 0 144) = 0 then ms else upd (upd ms 6 p1) 7 p2
def sw2_X6_birds (mf : Nat → Int32) (ms : Nat → Int32) (mp : Nat → Int32) (p1 : Int32) (p2 : Int32) : Nat → Int32 := if (sr_X6_in p1 0 143) = 0 then mp else if (sr_X6_in p2 0 144) = 0 then mp else (gv26_2_X6_birds mf ms mp)
abbrev po_X6_birds (cI cC cL : ClassId) (m0 m1 m2 m3 m4 m5 m6 : Nat) (mf ms mp : Nat → Int32) (p1 : Int32) (p2 : Int32) (hc : cq mf) : Int32 → va_W → Prop := fun r w' => sr_X6_birds p1 p2 = r ∧ [oM m0 m1 m2 m3 m4 m5 m6 (sw0_X6_birds mf p1 p2), aI cI m1 89 (sw1_X6_birds ms p1 p2), aI cI m2 356 (sw2_X6_birds mf ms mp p1 p2)] = w'
set_option maxHeartbeats 4000000 in
set_option maxRecDepth 100000 in
theorem ct_X6_birds (l : Launch) (D : va_G) (cI cC cL : ClassId) (m0 m1 m2 m3 m4 m5 m6 : Nat) (mf ms mp : Nat → Int32) (p1 : Int32) (p2 : Int32) (hc : cq mf) : ag_MI l yX6_birds cX6_birds 3 .int 1 22 D cI cC cL [.ref m0, .int p1, .int p2] [oM m0 m1 m2 m3 m4 m5 m6 mf, aI cI m1 89 ms, aI cI m2 356 mp] (po_X6_birds cI cC cL m0 m1 m2 m3 m4 m5 m6 mf ms mp p1 p2 hc) := by
  refine ag_MI.of (plainFor_of_name (by decide)) (Nat.le_of_ble_eq_true rfl) ?_
  intro p e s m below meth c hx hb hr hlocks hml hown hmn hG hK A hN hA H locs hP hD hS ls hl
  have hl : lv_has ls 3 [(0, .ref m0), (1, .int p1), (2, .int p2)] := hl
  refine lv_iload_n hx hb dX6_birds_0 rfl (lv_at hl 1 rfl) ?_
  refine lv_iconst (v := 0) hx hb dX6_birds_1 (by decide) ?_
  refine lv_sipush (v := 143) hx hb dX6_birds_2 (by decide) ?_
  refine ag_callSi (As := [.int p1, .int 0, .int 143]) (rest := []) hx hb hml hown hG hK hN hA hP hD hS hl (ct_X6_in l D cI cC cL p1 0 143) fX6_in k_607 ag_cut_0 rfl (Nat.le_of_ble_eq_true rfl) ⟨Nat.le_of_ble_eq_true rfl, Nat.le_of_ble_eq_true rfl⟩ ⟨Nat.zero_le _, Nat.zero_le _⟩ dX6_birds_5 (fun r w1 H locs hw hP hD hS => ?_)
  obtain ⟨rfl, hw⟩ := hw
  subst hw
  have hP : va_P D vwCl [oM m0 m1 m2 m3 m4 m5 m6 mf, aI cI m1 89 ms, aI cI m2 356 mp] H := hP
  have hD : va_D A [oM m0 m1 m2 m3 m4 m5 m6 mf, aI cI m1 89 ms, aI cI m2 356 mp] := hD
  refine lv_if_eq (tgt := 22) hx hb dX6_birds_8 (by decide) (fun c_8 => ?_) (fun c_8 => ?_)
  · refine lv_ldc (v := (-1000000001)) hx hb hown (hG _ k_618) dX6_birds_22 ?_
    exact ag_iret [m0, m1, m2] hx hb hr rfl hlocks hP hS rfl rfl ⟨(by unfold sr_X6_birds; rw [if_pos c_8]), (by show _ = _; rw [show sw0_X6_birds mf p1 p2 = mf from (by unfold sw0_X6_birds; rw [if_pos c_8]), show sw1_X6_birds ms p1 p2 = ms from (by unfold sw1_X6_birds; rw [if_pos c_8]), show sw2_X6_birds mf ms mp p1 p2 = mp from (by unfold sw2_X6_birds; rw [if_pos c_8])])⟩ dX6_birds_24
  · refine lv_iload_n hx hb dX6_birds_11 rfl (lv_at hl 2 rfl) ?_
    refine lv_iconst (v := 0) hx hb dX6_birds_12 (by decide) ?_
    refine lv_sipush (v := 144) hx hb dX6_birds_13 (by decide) ?_
    refine ag_callSi (As := [.int p2, .int 0, .int 144]) (rest := []) hx hb hml hown hG hK hN hA hP hD hS hl (ct_X6_in l D cI cC cL p2 0 144) fX6_in k_607 ag_cut_0 rfl (Nat.le_of_ble_eq_true rfl) ⟨Nat.le_of_ble_eq_true rfl, Nat.le_of_ble_eq_true rfl⟩ ⟨Nat.zero_le _, Nat.zero_le _⟩ dX6_birds_16 (fun r w1 H locs hw hP hD hS => ?_)
    obtain ⟨rfl, hw⟩ := hw
    subst hw
    have hP : va_P D vwCl [oM m0 m1 m2 m3 m4 m5 m6 mf, aI cI m1 89 ms, aI cI m2 356 mp] H := hP
    have hD : va_D A [oM m0 m1 m2 m3 m4 m5 m6 mf, aI cI m1 89 ms, aI cI m2 356 mp] := hD
    refine lv_if_ne (tgt := 25) hx hb dX6_birds_19 (by decide) (fun c_19 => ?_) (fun c_19 => ?_)
    · refine lv_aload_n hx hb dX6_birds_25 rfl (lv_at hl 0 rfl) ?_
      refine ag_callVv (As := []) (rest := []) hx hb hml hown hG hK hN hA hP hD hS hl (ct_X6_changes l D cI cC cL m0 m1 m2 m3 m4 m5 m6 mf ms mp hc) fX6_changes k_614 ag_cut_all (q0 := 0) rfl rfl rfl rfl (Nat.le_of_ble_eq_true rfl) ⟨Nat.le_of_ble_eq_true rfl, Nat.le_of_ble_eq_true rfl⟩ ⟨Nat.zero_le _, Nat.zero_le _⟩ dX6_birds_26 (fun w1 H locs hw hP hD hS => ?_)
      have hw : _ = w1 := hw
      generalize eg26_1 : chF mf = g26_1 at hw
      replace eg26_1 : gv26_1_X6_birds mf = g26_1 := (by rw [← eg26_1]; rfl)
      generalize eg26_2 : chP mf ms mp = g26_2 at hw
      replace eg26_2 : gv26_2_X6_birds mf ms mp = g26_2 := (by rw [← eg26_2]; rfl)
      subst hw
      have hP : va_P D vwCl [oM m0 m1 m2 m3 m4 m5 m6 g26_1, aI cI m1 89 ms, aI cI m2 356 g26_2] H := hP
      have hD : va_D A [oM m0 m1 m2 m3 m4 m5 m6 g26_1, aI cI m1 89 ms, aI cI m2 356 g26_2] := hD
      refine lv_aload_n hx hb dX6_birds_29 rfl (lv_at hl 0 rfl) ?_
      refine ag_getX6 (v := .ref m1) hx hb hG hown hK hP 0 0 rfl (by decide) k_536 rfl dX6_birds_30 ?_
      refine lv_bipush (v := 6) hx hb dX6_birds_33 (by decide) ?_
      refine lv_iload_n hx hb dX6_birds_35 rfl (lv_at hl 1 rfl) ?_
      refine ag_ist (k := 6) hx hb hK hP hD hS 1 rfl rfl (Nat.le_of_ble_eq_true rfl) (Nat.le_of_ble_eq_true rfl) dX6_birds_36 (fun H locs hP hD hS => ?_)
      have hP : va_P D vwCl [oM m0 m1 m2 m3 m4 m5 m6 g26_1, aI cI m1 89 (upd ms 6 p1), aI cI m2 356 g26_2] H := hP
      have hD : va_D A [oM m0 m1 m2 m3 m4 m5 m6 g26_1, aI cI m1 89 (upd ms 6 p1), aI cI m2 356 g26_2] := hD
      refine lv_aload_n hx hb dX6_birds_37 rfl (lv_at hl 0 rfl) ?_
      refine ag_getX6 (v := .ref m1) hx hb hG hown hK hP 0 0 rfl (by decide) k_536 rfl dX6_birds_38 ?_
      refine lv_bipush (v := 7) hx hb dX6_birds_41 (by decide) ?_
      refine lv_iload_n hx hb dX6_birds_43 rfl (lv_at hl 2 rfl) ?_
      refine ag_ist (k := 7) hx hb hK hP hD hS 1 rfl rfl (Nat.le_of_ble_eq_true rfl) (Nat.le_of_ble_eq_true rfl) dX6_birds_44 (fun H locs hP hD hS => ?_)
      have hP : va_P D vwCl [oM m0 m1 m2 m3 m4 m5 m6 g26_1, aI cI m1 89 (upd (upd ms 6 p1) 7 p2), aI cI m2 356 g26_2] H := hP
      have hD : va_D A [oM m0 m1 m2 m3 m4 m5 m6 g26_1, aI cI m1 89 (upd (upd ms 6 p1) 7 p2), aI cI m2 356 g26_2] := hD
      refine lv_iload_n hx hb dX6_birds_45 rfl (lv_at hl 1 rfl) ?_
      refine lv_iload_n hx hb dX6_birds_46 rfl (lv_at hl 2 rfl) ?_
      refine lv_icmp_ge (tgt := 56) hx hb dX6_birds_47 (by decide) (fun c_47 => ?_) (fun c_47 => ?_)
      · refine lv_iconst (v := 0) hx hb dX6_birds_56 (by decide) ?_
        revert hP; revert hD; revert hS; revert hl
        subst eg26_2
        subst eg26_1
        intro hl hS hD hP
        exact ag_iret [m0, m1, m2] hx hb hr rfl hlocks hP hS rfl rfl ⟨(by unfold sr_X6_birds; rw [if_neg c_8, if_neg c_19, if_pos c_47]), (by show _ = _; rw [show sw0_X6_birds mf p1 p2 = (gv26_1_X6_birds mf) from (by unfold sw0_X6_birds; rw [if_neg c_8, if_neg c_19]), show sw1_X6_birds ms p1 p2 = upd (upd ms 6 p1) 7 p2 from (by unfold sw1_X6_birds; rw [if_neg c_8, if_neg c_19]), show sw2_X6_birds mf ms mp p1 p2 = (gv26_2_X6_birds mf ms mp) from (by unfold sw2_X6_birds; rw [if_neg c_8, if_neg c_19])])⟩ dX6_birds_57
      · refine lv_iload_n hx hb dX6_birds_50 rfl (lv_at hl 2 rfl) ?_
        refine lv_iload_n hx hb dX6_birds_51 rfl (lv_at hl 1 rfl) ?_
        refine lv_isub hx hb dX6_birds_52 ?_
        refine lv_goto (tgt := 57) hx hb dX6_birds_53 (by decide) ?_
        revert hP; revert hD; revert hS; revert hl
        subst eg26_2
        subst eg26_1
        intro hl hS hD hP
        exact ag_iret [m0, m1, m2] hx hb hr rfl hlocks hP hS rfl rfl ⟨(by unfold sr_X6_birds; rw [if_neg c_8, if_neg c_19, if_neg c_47]), (by show _ = _; rw [show sw0_X6_birds mf p1 p2 = (gv26_1_X6_birds mf) from (by unfold sw0_X6_birds; rw [if_neg c_8, if_neg c_19]), show sw1_X6_birds ms p1 p2 = upd (upd ms 6 p1) 7 p2 from (by unfold sw1_X6_birds; rw [if_neg c_8, if_neg c_19]), show sw2_X6_birds mf ms mp p1 p2 = (gv26_2_X6_birds mf ms mp) from (by unfold sw2_X6_birds; rw [if_neg c_8, if_neg c_19])])⟩ dX6_birds_57
    · refine lv_ldc (v := (-1000000001)) hx hb hown (hG _ k_618) dX6_birds_22 ?_
      exact ag_iret [m0, m1, m2] hx hb hr rfl hlocks hP hS rfl rfl ⟨(by unfold sr_X6_birds; rw [if_neg c_8, if_pos c_19]), (by show _ = _; rw [show sw0_X6_birds mf p1 p2 = mf from (by unfold sw0_X6_birds; rw [if_neg c_8, if_pos c_19]), show sw1_X6_birds ms p1 p2 = ms from (by unfold sw1_X6_birds; rw [if_neg c_8, if_pos c_19]), show sw2_X6_birds mf ms mp p1 p2 = mp from (by unfold sw2_X6_birds; rw [if_neg c_8, if_pos c_19])])⟩ dX6_birds_24
def gv32_1_X6_run (mf : Nat → Int32) : Nat → Int32 := chF mf
def gv32_2_X6_run (mf : Nat → Int32) (ms : Nat → Int32) (mp : Nat → Int32) : Nat → Int32 := chP mf ms mp
def gv37_3_X6_run (mf : Nat → Int32) (ms : Nat → Int32) (p1 : Int32) : Nat → Int32 := (mtl p1.toNatClampNeg ((gv32_1_X6_run mf), ms)).1
def gv37_4_X6_run (mf : Nat → Int32) (ms : Nat → Int32) (p1 : Int32) : Nat → Int32 := (mtl p1.toNatClampNeg ((gv32_1_X6_run mf), ms)).2
def sr_X6_run (mf : Nat → Int32) (ms : Nat → Int32) (p1 : Int32) : Int32 := if (sr_X6_in p1 1 300) = 0 then (-1000000001) else if ((ms 0) + p1) ≤ 9999 then sr_X6_level (gv37_4_X6_run mf ms p1) else (-1000000003)
def sw0_X6_run (mf : Nat → Int32) (ms : Nat → Int32) (p1 : Int32) : Nat → Int32 := if (sr_X6_in p1 1 300) = 0 then mf else if ((ms 0) + p1) ≤ 9999 then (gv37_3_X6_run mf ms p1) else mf
def sw1_X6_run (mf : Nat → Int32) (ms : Nat → Int32) (p1 : Int32) : Nat → Int32 := if (sr_X6_in p1 1 300) = 0 then ms else if ((ms 0) + p1) ≤ 9999 then (gv37_4_X6_run mf ms p1) else ms
def sw2_X6_run (mf : Nat → Int32) (ms : Nat → Int32) (mp : Nat → Int32) (p1 : Int32) : Nat → Int32 := if (sr_X6_in p1 1 300) = 0 then mp else if ((ms 0) + p1) ≤ 9999 then (gv32_2_X6_run mf ms mp) else mp
abbrev po_X6_run (cI cC cL : ClassId) (m0 m1 m2 m3 m4 m5 m6 : Nat) (mf ms mp : Nat → Int32) (p1 : Int32) (hc : cq mf) (hq : mq ms) : Int32 → va_W → Prop := fun r w' => sr_X6_run mf ms p1 = r ∧ [oM m0 m1 m2 m3 m4 m5 m6 (sw0_X6_run mf ms p1), aI cI m1 89 (sw1_X6_run mf ms p1), aI cI m2 356 (sw2_X6_run mf ms mp p1)] = w'
set_option maxHeartbeats 4000000 in
set_option maxRecDepth 100000 in
theorem ct_X6_run (l : Launch) (D : va_G) (cI cC cL : ClassId) (m0 m1 m2 m3 m4 m5 m6 : Nat) (mf ms mp : Nat → Int32) (p1 : Int32) (hc : cq mf) (hq : mq ms) : ag_MI l yX6_run cX6_run 2 .int 7 149 D cI cC cL [.ref m0, .int p1] [oM m0 m1 m2 m3 m4 m5 m6 mf, aI cI m1 89 ms, aI cI m2 356 mp] (po_X6_run cI cC cL m0 m1 m2 m3 m4 m5 m6 mf ms mp p1 hc hq) := by
  refine ag_MI.of (plainFor_of_name (by decide)) (Nat.le_of_ble_eq_true rfl) ?_
  intro p e s m below meth c hx hb hr hlocks hml hown hmn hG hK A hN hA H locs hP hD hS ls hl
  have hl : lv_has ls 2 [(0, .ref m0), (1, .int p1)] := hl
  refine lv_iload_n hx hb dX6_run_0 rfl (lv_at hl 1 rfl) ?_
  refine lv_iconst (v := 1) hx hb dX6_run_1 (by decide) ?_
  refine lv_sipush (v := 300) hx hb dX6_run_2 (by decide) ?_
  refine ag_callSi (As := [.int p1, .int 1, .int 300]) (rest := []) hx hb hml hown hG hK hN hA hP hD hS hl (ct_X6_in l D cI cC cL p1 1 300) fX6_in k_607 ag_cut_0 rfl (Nat.le_of_ble_eq_true rfl) ⟨Nat.le_of_ble_eq_true rfl, Nat.le_of_ble_eq_true rfl⟩ ⟨Nat.zero_le _, Nat.zero_le _⟩ dX6_run_5 (fun r w1 H locs hw hP hD hS => ?_)
  obtain ⟨rfl, hw⟩ := hw
  subst hw
  have hP : va_P D vwCl [oM m0 m1 m2 m3 m4 m5 m6 mf, aI cI m1 89 ms, aI cI m2 356 mp] H := hP
  have hD : va_D A [oM m0 m1 m2 m3 m4 m5 m6 mf, aI cI m1 89 ms, aI cI m2 356 mp] := hD
  refine lv_if_ne (tgt := 14) hx hb dX6_run_8 (by decide) (fun c_8 => ?_) (fun c_8 => ?_)
  · refine lv_aload_n hx hb dX6_run_14 rfl (lv_at hl 0 rfl) ?_
    refine ag_getX6 (v := .ref m1) hx hb hG hown hK hP 0 0 rfl (by decide) k_536 rfl dX6_run_15 ?_
    refine lv_iconst (v := 0) hx hb dX6_run_18 (by decide) ?_
    refine ag_ild (k := 0) (v := ms 0) hx hb hK hP 1 rfl rfl (Nat.le_of_ble_eq_true rfl) (Nat.le_of_ble_eq_true rfl) rfl dX6_run_19 ?_
    refine lv_iload_n hx hb dX6_run_20 rfl (lv_at hl 1 rfl) ?_
    refine lv_iadd hx hb dX6_run_21 ?_
    refine lv_sipush (v := 9999) hx hb dX6_run_22 (by decide) ?_
    refine lv_icmp_le (tgt := 31) hx hb dX6_run_25 (by decide) (fun c_25 => ?_) (fun c_25 => ?_)
    · refine lv_aload_n hx hb dX6_run_31 rfl (lv_at hl 0 rfl) ?_
      refine ag_callVv (As := []) (rest := []) hx hb hml hown hG hK hN hA hP hD hS hl (ct_X6_changes l D cI cC cL m0 m1 m2 m3 m4 m5 m6 mf ms mp hc) fX6_changes k_614 ag_cut_all (q0 := 0) rfl rfl rfl rfl (Nat.le_of_ble_eq_true rfl) ⟨Nat.le_of_ble_eq_true rfl, Nat.le_of_ble_eq_true rfl⟩ ⟨Nat.zero_le _, Nat.zero_le _⟩ dX6_run_32 (fun w1 H locs hw hP hD hS => ?_)
      have hw : _ = w1 := hw
      generalize eg32_1 : chF mf = g32_1 at hw
      replace eg32_1 : gv32_1_X6_run mf = g32_1 := (by rw [← eg32_1]; rfl)
      generalize eg32_2 : chP mf ms mp = g32_2 at hw
      replace eg32_2 : gv32_2_X6_run mf ms mp = g32_2 := (by rw [← eg32_2]; rfl)
      subst hw
      have hP : va_P D vwCl [oM m0 m1 m2 m3 m4 m5 m6 g32_1, aI cI m1 89 ms, aI cI m2 356 g32_2] H := hP
      have hD : va_D A [oM m0 m1 m2 m3 m4 m5 m6 g32_1, aI cI m1 89 ms, aI cI m2 356 g32_2] := hD
      refine lv_aload_n hx hb dX6_run_35 rfl (lv_at hl 0 rfl) ?_
      refine lv_iload_n hx hb dX6_run_36 rfl (lv_at hl 1 rfl) ?_
      refine ag_callVv (As := [.int p1]) (rest := []) hx hb hml hown hG hK hN hA hP hD hS hl (ct_X6_ticks l D cI cC cL m0 m1 m2 m3 m4 m5 m6 g32_1 ms p1 p1.toNatClampNeg (ag_pos (in_is c_8).1) hq) fX6_ticks k_636 (ag_cut_1 [] [aI cI m2 356 g32_2] rfl) (q0 := 0) rfl rfl rfl rfl (Nat.le_of_ble_eq_true rfl) ⟨Nat.le_of_ble_eq_true rfl, Nat.le_of_ble_eq_true rfl⟩ ⟨Nat.zero_le _, Nat.zero_le _⟩ dX6_run_37 (fun w1 H locs hw hP hD hS => ?_)
      have hw : _ = w1 := hw
      generalize eg37_3 : (mtl p1.toNatClampNeg (g32_1, ms)).1 = g37_3 at hw
      replace eg37_3 : gv37_3_X6_run mf ms p1 = g37_3 := (by rw [← eg37_3, ← eg32_1]; rfl)
      generalize eg37_4 : (mtl p1.toNatClampNeg (g32_1, ms)).2 = g37_4 at hw
      replace eg37_4 : gv37_4_X6_run mf ms p1 = g37_4 := (by rw [← eg37_4, ← eg32_1]; rfl)
      subst hw
      have hP : va_P D vwCl [oM m0 m1 m2 m3 m4 m5 m6 g37_3, aI cI m1 89 g37_4, aI cI m2 356 g32_2] H := hP
      have hD : va_D A [oM m0 m1 m2 m3 m4 m5 m6 g37_3, aI cI m1 89 g37_4, aI cI m2 356 g32_2] := hD
      refine lv_aload_n hx hb dX6_run_40 rfl (lv_at hl 0 rfl) ?_
      refine ag_callVi (As := []) (rest := []) hx hb hml hown hG hK hN hA hP hD hS hl (ct_X6_level l D cI cC cL m0 m1 m2 m3 m4 m5 m6 g37_3 g37_4) fX6_level k_661 (ag_cut_1 [] [aI cI m2 356 g32_2] rfl) (q0 := 0) rfl rfl rfl rfl (Nat.le_of_ble_eq_true rfl) ⟨Nat.le_of_ble_eq_true rfl, Nat.le_of_ble_eq_true rfl⟩ ⟨Nat.zero_le _, Nat.zero_le _⟩ dX6_run_41 (fun r w1 H locs hw hP hD hS => ?_)
      obtain ⟨rfl, hw⟩ := hw
      subst hw
      have hP : va_P D vwCl [oM m0 m1 m2 m3 m4 m5 m6 g37_3, aI cI m1 89 g37_4, aI cI m2 356 g32_2] H := hP
      have hD : va_D A [oM m0 m1 m2 m3 m4 m5 m6 g37_3, aI cI m1 89 g37_4, aI cI m2 356 g32_2] := hD
      revert hP; revert hD; revert hS; revert hl
      subst eg37_4
      subst eg37_3
      subst eg32_2
      subst eg32_1
      intro hl hS hD hP
      exact ag_iret [m0, m1, m2] hx hb hr rfl hlocks hP hS rfl rfl ⟨(by unfold sr_X6_run; rw [if_neg c_8, if_pos c_25]), (by show _ = _; rw [show sw0_X6_run mf ms p1 = (gv37_3_X6_run mf ms p1) from (by unfold sw0_X6_run; rw [if_neg c_8, if_pos c_25]), show sw1_X6_run mf ms p1 = (gv37_4_X6_run mf ms p1) from (by unfold sw1_X6_run; rw [if_neg c_8, if_pos c_25]), show sw2_X6_run mf ms mp p1 = (gv32_2_X6_run mf ms mp) from (by unfold sw2_X6_run; rw [if_neg c_8, if_pos c_25])])⟩ dX6_run_44
    · refine lv_ldc (v := (-1000000003)) hx hb hown (hG _ k_635) dX6_run_28 ?_
      exact ag_iret [m0, m1, m2] hx hb hr rfl hlocks hP hS rfl rfl ⟨(by unfold sr_X6_run; rw [if_neg c_8, if_neg c_25]), (by show _ = _; rw [show sw0_X6_run mf ms p1 = mf from (by unfold sw0_X6_run; rw [if_neg c_8, if_neg c_25]), show sw1_X6_run mf ms p1 = ms from (by unfold sw1_X6_run; rw [if_neg c_8, if_neg c_25]), show sw2_X6_run mf ms mp p1 = mp from (by unfold sw2_X6_run; rw [if_neg c_8, if_neg c_25])])⟩ dX6_run_30
  · refine lv_ldc (v := (-1000000001)) hx hb hown (hG _ k_618) dX6_run_11 ?_
    exact ag_iret [m0, m1, m2] hx hb hr rfl hlocks hP hS rfl rfl ⟨(by unfold sr_X6_run; rw [if_pos c_8]), (by show _ = _; rw [show sw0_X6_run mf ms p1 = mf from (by unfold sw0_X6_run; rw [if_pos c_8]), show sw1_X6_run mf ms p1 = ms from (by unfold sw1_X6_run; rw [if_pos c_8]), show sw2_X6_run mf ms mp p1 = mp from (by unfold sw2_X6_run; rw [if_pos c_8])])⟩ dX6_run_13
def gv28_1_X6_dredge (mf : Nat → Int32) : Nat → Int32 := chF mf
def gv28_2_X6_dredge (mf : Nat → Int32) (ms : Nat → Int32) (mp : Nat → Int32) : Nat → Int32 := chP mf ms mp
def xv40_3_X6_dredge (ms : Nat → Int32) (p1 : Int32) : Int32 := (ms 2) - p1
def xv51_4_X6_dredge (ms : Nat → Int32) (p1 : Int32) : Int32 := (ms 15) + p1
def sr_X6_dredge (ms : Nat → Int32) (p1 : Int32) : Int32 := if (sr_X6_in p1 1 20000) = 0 then (-1000000001) else if p1 ≤ (ms 2) then (xv40_3_X6_dredge ms p1) else (-1000000002)
def sw0_X6_dredge (mf : Nat → Int32) (ms : Nat → Int32) (p1 : Int32) : Nat → Int32 := if (sr_X6_in p1 1 20000) = 0 then mf else if p1 ≤ (ms 2) then (gv28_1_X6_dredge mf) else mf
def sw1_X6_dredge (ms : Nat → Int32) (p1 : Int32) : Nat → Int32 := if (sr_X6_in p1 1 20000) = 0 then ms else if p1 ≤ (ms 2) then upd (upd ms 2 (xv40_3_X6_dredge ms p1)) 15 (xv51_4_X6_dredge ms p1) else ms
def sw2_X6_dredge (mf : Nat → Int32) (ms : Nat → Int32) (mp : Nat → Int32) (p1 : Int32) : Nat → Int32 := if (sr_X6_in p1 1 20000) = 0 then mp else if p1 ≤ (ms 2) then (gv28_2_X6_dredge mf ms mp) else mp
abbrev po_X6_dredge (cI cC cL : ClassId) (m0 m1 m2 m3 m4 m5 m6 : Nat) (mf ms mp : Nat → Int32) (p1 : Int32) (hc : cq mf) : Int32 → va_W → Prop := fun r w' => sr_X6_dredge ms p1 = r ∧ [oM m0 m1 m2 m3 m4 m5 m6 (sw0_X6_dredge mf ms p1), aI cI m1 89 (sw1_X6_dredge ms p1), aI cI m2 356 (sw2_X6_dredge mf ms mp p1)] = w'
set_option maxHeartbeats 4000000 in
set_option maxRecDepth 100000 in
theorem ct_X6_dredge (l : Launch) (D : va_G) (cI cC cL : ClassId) (m0 m1 m2 m3 m4 m5 m6 : Nat) (mf ms mp : Nat → Int32) (p1 : Int32) (hc : cq mf) : ag_MI l yX6_dredge cX6_dredge 2 .int 1 22 D cI cC cL [.ref m0, .int p1] [oM m0 m1 m2 m3 m4 m5 m6 mf, aI cI m1 89 ms, aI cI m2 356 mp] (po_X6_dredge cI cC cL m0 m1 m2 m3 m4 m5 m6 mf ms mp p1 hc) := by
  refine ag_MI.of (plainFor_of_name (by decide)) (Nat.le_of_ble_eq_true rfl) ?_
  intro p e s m below meth c hx hb hr hlocks hml hown hmn hG hK A hN hA H locs hP hD hS ls hl
  have hl : lv_has ls 2 [(0, .ref m0), (1, .int p1)] := hl
  refine lv_iload_n hx hb dX6_dredge_0 rfl (lv_at hl 1 rfl) ?_
  refine lv_iconst (v := 1) hx hb dX6_dredge_1 (by decide) ?_
  refine lv_sipush (v := 20000) hx hb dX6_dredge_2 (by decide) ?_
  refine ag_callSi (As := [.int p1, .int 1, .int 20000]) (rest := []) hx hb hml hown hG hK hN hA hP hD hS hl (ct_X6_in l D cI cC cL p1 1 20000) fX6_in k_607 ag_cut_0 rfl (Nat.le_of_ble_eq_true rfl) ⟨Nat.le_of_ble_eq_true rfl, Nat.le_of_ble_eq_true rfl⟩ ⟨Nat.zero_le _, Nat.zero_le _⟩ dX6_dredge_5 (fun r w1 H locs hw hP hD hS => ?_)
  obtain ⟨rfl, hw⟩ := hw
  subst hw
  have hP : va_P D vwCl [oM m0 m1 m2 m3 m4 m5 m6 mf, aI cI m1 89 ms, aI cI m2 356 mp] H := hP
  have hD : va_D A [oM m0 m1 m2 m3 m4 m5 m6 mf, aI cI m1 89 ms, aI cI m2 356 mp] := hD
  refine lv_if_ne (tgt := 14) hx hb dX6_dredge_8 (by decide) (fun c_8 => ?_) (fun c_8 => ?_)
  · refine lv_aload_n hx hb dX6_dredge_14 rfl (lv_at hl 0 rfl) ?_
    refine ag_getX6 (v := .ref m1) hx hb hG hown hK hP 0 0 rfl (by decide) k_536 rfl dX6_dredge_15 ?_
    refine lv_iconst (v := 2) hx hb dX6_dredge_18 (by decide) ?_
    refine ag_ild (k := 2) (v := ms 2) hx hb hK hP 1 rfl rfl (Nat.le_of_ble_eq_true rfl) (Nat.le_of_ble_eq_true rfl) rfl dX6_dredge_19 ?_
    refine lv_iload_n hx hb dX6_dredge_20 rfl (lv_at hl 1 rfl) ?_
    refine lv_icmp_ge (tgt := 27) hx hb dX6_dredge_21 (by decide) (fun c_21 => ?_) (fun c_21 => ?_)
    · refine lv_aload_n hx hb dX6_dredge_27 rfl (lv_at hl 0 rfl) ?_
      refine ag_callVv (As := []) (rest := []) hx hb hml hown hG hK hN hA hP hD hS hl (ct_X6_changes l D cI cC cL m0 m1 m2 m3 m4 m5 m6 mf ms mp hc) fX6_changes k_614 ag_cut_all (q0 := 0) rfl rfl rfl rfl (Nat.le_of_ble_eq_true rfl) ⟨Nat.le_of_ble_eq_true rfl, Nat.le_of_ble_eq_true rfl⟩ ⟨Nat.zero_le _, Nat.zero_le _⟩ dX6_dredge_28 (fun w1 H locs hw hP hD hS => ?_)
      have hw : _ = w1 := hw
      generalize eg28_1 : chF mf = g28_1 at hw
      replace eg28_1 : gv28_1_X6_dredge mf = g28_1 := (by rw [← eg28_1]; rfl)
      generalize eg28_2 : chP mf ms mp = g28_2 at hw
      replace eg28_2 : gv28_2_X6_dredge mf ms mp = g28_2 := (by rw [← eg28_2]; rfl)
      subst hw
      have hP : va_P D vwCl [oM m0 m1 m2 m3 m4 m5 m6 g28_1, aI cI m1 89 ms, aI cI m2 356 g28_2] H := hP
      have hD : va_D A [oM m0 m1 m2 m3 m4 m5 m6 g28_1, aI cI m1 89 ms, aI cI m2 356 g28_2] := hD
      refine lv_aload_n hx hb dX6_dredge_31 rfl (lv_at hl 0 rfl) ?_
      refine ag_getX6 (v := .ref m1) hx hb hG hown hK hP 0 0 rfl (by decide) k_536 rfl dX6_dredge_32 ?_
      refine lv_iconst (v := 2) hx hb dX6_dredge_35 (by decide) ?_
      refine lv_dup2_11 hx hb dX6_dredge_36 rfl rfl ?_
      refine ag_ild (k := 2) (v := ms 2) hx hb hK hP 1 rfl rfl (Nat.le_of_ble_eq_true rfl) (Nat.le_of_ble_eq_true rfl) rfl dX6_dredge_37 ?_
      refine lv_iload_n hx hb dX6_dredge_38 rfl (lv_at hl 1 rfl) ?_
      refine lv_isub hx hb dX6_dredge_39 ?_
      refine ag_topn (v := xv40_3_X6_dredge ms p1) rfl (fun x40_3 ex40_3 => ?_)
      refine ag_ist (k := 2) hx hb hK hP hD hS 1 rfl rfl (Nat.le_of_ble_eq_true rfl) (Nat.le_of_ble_eq_true rfl) dX6_dredge_40 (fun H locs hP hD hS => ?_)
      have hP : va_P D vwCl [oM m0 m1 m2 m3 m4 m5 m6 g28_1, aI cI m1 89 (upd ms 2 x40_3), aI cI m2 356 g28_2] H := hP
      have hD : va_D A [oM m0 m1 m2 m3 m4 m5 m6 g28_1, aI cI m1 89 (upd ms 2 x40_3), aI cI m2 356 g28_2] := hD
      refine lv_aload_n hx hb dX6_dredge_41 rfl (lv_at hl 0 rfl) ?_
      refine ag_getX6 (v := .ref m1) hx hb hG hown hK hP 0 0 rfl (by decide) k_536 rfl dX6_dredge_42 ?_
      refine lv_bipush (v := 15) hx hb dX6_dredge_45 (by decide) ?_
      refine lv_dup2_11 hx hb dX6_dredge_47 rfl rfl ?_
      refine ag_ild (k := 15) (v := ms 15) hx hb hK hP 1 rfl rfl (Nat.le_of_ble_eq_true rfl) (Nat.le_of_ble_eq_true rfl) rfl dX6_dredge_48 ?_
      refine lv_iload_n hx hb dX6_dredge_49 rfl (lv_at hl 1 rfl) ?_
      refine lv_iadd hx hb dX6_dredge_50 ?_
      refine ag_topn (v := xv51_4_X6_dredge ms p1) rfl (fun x51_4 ex51_4 => ?_)
      refine ag_ist (k := 15) hx hb hK hP hD hS 1 rfl rfl (Nat.le_of_ble_eq_true rfl) (Nat.le_of_ble_eq_true rfl) dX6_dredge_51 (fun H locs hP hD hS => ?_)
      have hP : va_P D vwCl [oM m0 m1 m2 m3 m4 m5 m6 g28_1, aI cI m1 89 (upd (upd ms 2 x40_3) 15 x51_4), aI cI m2 356 g28_2] H := hP
      have hD : va_D A [oM m0 m1 m2 m3 m4 m5 m6 g28_1, aI cI m1 89 (upd (upd ms 2 x40_3) 15 x51_4), aI cI m2 356 g28_2] := hD
      refine lv_aload_n hx hb dX6_dredge_52 rfl (lv_at hl 0 rfl) ?_
      refine ag_getX6 (v := .ref m1) hx hb hG hown hK hP 0 0 rfl (by decide) k_536 rfl dX6_dredge_53 ?_
      refine lv_iconst (v := 2) hx hb dX6_dredge_56 (by decide) ?_
      refine ag_ild (k := 2) (v := x40_3) hx hb hK hP 1 rfl rfl (Nat.le_of_ble_eq_true rfl) (Nat.le_of_ble_eq_true rfl) rfl dX6_dredge_57 ?_
      revert hP; revert hD; revert hS; revert hl
      subst ex51_4
      subst ex40_3
      subst eg28_2
      subst eg28_1
      intro hl hS hD hP
      exact ag_iret [m0, m1, m2] hx hb hr rfl hlocks hP hS rfl rfl ⟨(by unfold sr_X6_dredge; rw [if_neg c_8, if_pos c_21]), (by show _ = _; rw [show sw0_X6_dredge mf ms p1 = (gv28_1_X6_dredge mf) from (by unfold sw0_X6_dredge; rw [if_neg c_8, if_pos c_21]), show sw1_X6_dredge ms p1 = upd (upd ms 2 (xv40_3_X6_dredge ms p1)) 15 (xv51_4_X6_dredge ms p1) from (by unfold sw1_X6_dredge; rw [if_neg c_8, if_pos c_21]), show sw2_X6_dredge mf ms mp p1 = (gv28_2_X6_dredge mf ms mp) from (by unfold sw2_X6_dredge; rw [if_neg c_8, if_pos c_21])])⟩ dX6_dredge_58
    · refine lv_ldc (v := (-1000000002)) hx hb hown (hG _ k_683) dX6_dredge_24 ?_
      exact ag_iret [m0, m1, m2] hx hb hr rfl hlocks hP hS rfl rfl ⟨(by unfold sr_X6_dredge; rw [if_neg c_8, if_neg c_21]), (by show _ = _; rw [show sw0_X6_dredge mf ms p1 = mf from (by unfold sw0_X6_dredge; rw [if_neg c_8, if_neg c_21]), show sw1_X6_dredge ms p1 = ms from (by unfold sw1_X6_dredge; rw [if_neg c_8, if_neg c_21]), show sw2_X6_dredge mf ms mp p1 = mp from (by unfold sw2_X6_dredge; rw [if_neg c_8, if_neg c_21])])⟩ dX6_dredge_26
  · refine lv_ldc (v := (-1000000001)) hx hb hown (hG _ k_618) dX6_dredge_11 ?_
    exact ag_iret [m0, m1, m2] hx hb hr rfl hlocks hP hS rfl rfl ⟨(by unfold sr_X6_dredge; rw [if_pos c_8]), (by show _ = _; rw [show sw0_X6_dredge mf ms p1 = mf from (by unfold sw0_X6_dredge; rw [if_pos c_8]), show sw1_X6_dredge ms p1 = ms from (by unfold sw1_X6_dredge; rw [if_pos c_8]), show sw2_X6_dredge mf ms mp p1 = mp from (by unfold sw2_X6_dredge; rw [if_pos c_8])])⟩ dX6_dredge_13
theorem set_ix {x : Int32} (h : ¬ sr_X6_in x 0 2 = 0) : (8 + x = nI (8 + x.toNatClampNeg)) ∧ 8 + x.toNatClampNeg < 89 := by
  obtain ⟨e1, e2⟩ := in_nat (b := 2) (by decide) h
  exact ⟨(congrArg (fun z => (8 : Int32) + z) e1).trans (nI_add 8 _), by omega⟩
def j20_0_X6_set (p1 : Int32) : Int32 := if p1 = 1 then 0 else 1
def gv39_1_X6_set (mf : Nat → Int32) : Nat → Int32 := sw0_X6_sets mf
def gv39_2_X6_set (ms : Nat → Int32) (p1 : Int32) (p2 : Int32) : Nat → Int32 := sw1_X6_sets ms p2 (8 + p1.toNatClampNeg)
def gv39_3_X6_set (mf : Nat → Int32) (ms : Nat → Int32) (mp : Nat → Int32) : Nat → Int32 := sw2_X6_sets mf ms mp
def sr_X6_set (ms : Nat → Int32) (p1 : Int32) (p2 : Int32) : Int32 := if (sr_X6_in p1 0 2) = 0 then (-1000000001) else if (sr_X6_in p2 (j20_0_X6_set p1) (sr_X6_mostOf p1)) = 0 then (-1000000001) else sr_X6_sets ms (8 + p1.toNatClampNeg)
def sw0_X6_set (mf : Nat → Int32) (p1 : Int32) (p2 : Int32) : Nat → Int32 := if (sr_X6_in p1 0 2) = 0 then mf else if (sr_X6_in p2 (j20_0_X6_set p1) (sr_X6_mostOf p1)) = 0 then mf else (gv39_1_X6_set mf)
def sw1_X6_set (ms : Nat → Int32) (p1 : Int32) (p2 : Int32) : Nat → Int32 := if (sr_X6_in p1 0 2) = 0 then ms else if (sr_X6_in p2 (j20_0_X6_set p1) (sr_X6_mostOf p1)) = 0 then ms else (gv39_2_X6_set ms p1 p2)
def sw2_X6_set (mf : Nat → Int32) (ms : Nat → Int32) (mp : Nat → Int32) (p1 : Int32) (p2 : Int32) : Nat → Int32 := if (sr_X6_in p1 0 2) = 0 then mp else if (sr_X6_in p2 (j20_0_X6_set p1) (sr_X6_mostOf p1)) = 0 then mp else (gv39_3_X6_set mf ms mp)
abbrev po_X6_set (cI cC cL : ClassId) (m0 m1 m2 m3 m4 m5 m6 : Nat) (mf ms mp : Nat → Int32) (p1 : Int32) (p2 : Int32) (hc : cq mf) : Int32 → va_W → Prop := fun r w' => sr_X6_set ms p1 p2 = r ∧ [oM m0 m1 m2 m3 m4 m5 m6 (sw0_X6_set mf p1 p2), aI cI m1 89 (sw1_X6_set ms p1 p2), aI cI m2 356 (sw2_X6_set mf ms mp p1 p2)] = w'
set_option maxHeartbeats 4000000 in
set_option maxRecDepth 100000 in
theorem ct_X6_set (l : Launch) (D : va_G) (cI cC cL : ClassId) (m0 m1 m2 m3 m4 m5 m6 : Nat) (mf ms mp : Nat → Int32) (p1 : Int32) (p2 : Int32) (hc : cq mf) : ag_MI l yX6_set cX6_set 3 .int 2 44 D cI cC cL [.ref m0, .int p1, .int p2] [oM m0 m1 m2 m3 m4 m5 m6 mf, aI cI m1 89 ms, aI cI m2 356 mp] (po_X6_set cI cC cL m0 m1 m2 m3 m4 m5 m6 mf ms mp p1 p2 hc) := by
  refine ag_MI.of (plainFor_of_name (by decide)) (Nat.le_of_ble_eq_true rfl) ?_
  intro p e s m below meth c hx hb hr hlocks hml hown hmn hG hK A hN hA H locs hP hD hS ls hl
  have hl : lv_has ls 3 [(0, .ref m0), (1, .int p1), (2, .int p2)] := hl
  refine lv_iload_n hx hb dX6_set_0 rfl (lv_at hl 1 rfl) ?_
  refine lv_iconst (v := 0) hx hb dX6_set_1 (by decide) ?_
  refine lv_iconst (v := 2) hx hb dX6_set_2 (by decide) ?_
  refine ag_callSi (As := [.int p1, .int 0, .int 2]) (rest := []) hx hb hml hown hG hK hN hA hP hD hS hl (ct_X6_in l D cI cC cL p1 0 2) fX6_in k_607 ag_cut_0 rfl (Nat.le_of_ble_eq_true rfl) ⟨Nat.le_of_ble_eq_true rfl, Nat.le_of_ble_eq_true rfl⟩ ⟨Nat.zero_le _, Nat.zero_le _⟩ dX6_set_3 (fun r w1 H locs hw hP hD hS => ?_)
  obtain ⟨rfl, hw⟩ := hw
  subst hw
  have hP : va_P D vwCl [oM m0 m1 m2 m3 m4 m5 m6 mf, aI cI m1 89 ms, aI cI m2 356 mp] H := hP
  have hD : va_D A [oM m0 m1 m2 m3 m4 m5 m6 mf, aI cI m1 89 ms, aI cI m2 356 mp] := hD
  refine lv_if_eq (tgt := 30) hx hb dX6_set_6 (by decide) (fun c_6 => ?_) (fun c_6 => ?_)
  · refine lv_ldc (v := (-1000000001)) hx hb hown (hG _ k_618) dX6_set_30 ?_
    exact ag_iret [m0, m1, m2] hx hb hr rfl hlocks hP hS rfl rfl ⟨(by unfold sr_X6_set; rw [if_pos c_6]), (by show _ = _; rw [show sw0_X6_set mf p1 p2 = mf from (by unfold sw0_X6_set; rw [if_pos c_6]), show sw1_X6_set ms p1 p2 = ms from (by unfold sw1_X6_set; rw [if_pos c_6]), show sw2_X6_set mf ms mp p1 p2 = mp from (by unfold sw2_X6_set; rw [if_pos c_6])])⟩ dX6_set_32
  · refine lv_iload_n hx hb dX6_set_9 rfl (lv_at hl 2 rfl) ?_
    refine lv_iload_n hx hb dX6_set_10 rfl (lv_at hl 1 rfl) ?_
    refine lv_iconst (v := 1) hx hb dX6_set_11 (by decide) ?_
    have J20 : ∀ (ls : Array Slot), lv_has ls 3 [(0, .ref m0), (1, .int p1), (2, .int p2)] → W p l e (ag_rm 2 44) s m ([.ref m0, .int p1, .int p2] : List Value).toArray below meth c H locs 0 0 (MQ below (va_Qi (po_X6_set cI cC cL m0 m1 m2 m3 m4 m5 m6 mf ms mp p1 p2 hc) (ag_Out D [oM m0 m1 m2 m3 m4 m5 m6 mf, aI cI m1 89 ms, aI cI m2 356 mp]) A) ([.ref m0, .int p1, .int p2] : List Value).toArray s 0 0 A) (F0 m 20 ls [.int (j20_0_X6_set p1), .int p2]) := by
      intro ls hl
      refine lv_iload_n hx hb dX6_set_20 rfl (lv_at hl 1 rfl) ?_
      refine ag_callSi (As := [.int p1]) (rest := [.int (j20_0_X6_set p1), .int p2]) hx hb hml hown hG hK hN hA hP hD hS hl (ct_X6_mostOf l D cI cC cL p1) fX6_mostOf k_688 ag_cut_0 rfl (Nat.le_of_ble_eq_true rfl) ⟨Nat.le_of_ble_eq_true rfl, Nat.le_of_ble_eq_true rfl⟩ ⟨Nat.zero_le _, Nat.zero_le _⟩ dX6_set_21 (fun r w1 H locs hw hP hD hS => ?_)
      obtain ⟨rfl, hw⟩ := hw
      subst hw
      have hP : va_P D vwCl [oM m0 m1 m2 m3 m4 m5 m6 mf, aI cI m1 89 ms, aI cI m2 356 mp] H := hP
      have hD : va_D A [oM m0 m1 m2 m3 m4 m5 m6 mf, aI cI m1 89 ms, aI cI m2 356 mp] := hD
      refine ag_callSi (As := [.int p2, .int (j20_0_X6_set p1), .int (sr_X6_mostOf p1)]) (rest := []) hx hb hml hown hG hK hN hA hP hD hS hl (ct_X6_in l D cI cC cL p2 (j20_0_X6_set p1) (sr_X6_mostOf p1)) fX6_in k_607 ag_cut_0 rfl (Nat.le_of_ble_eq_true rfl) ⟨Nat.le_of_ble_eq_true rfl, Nat.le_of_ble_eq_true rfl⟩ ⟨Nat.zero_le _, Nat.zero_le _⟩ dX6_set_24 (fun r w1 H locs hw hP hD hS => ?_)
      obtain ⟨rfl, hw⟩ := hw
      subst hw
      have hP : va_P D vwCl [oM m0 m1 m2 m3 m4 m5 m6 mf, aI cI m1 89 ms, aI cI m2 356 mp] H := hP
      have hD : va_D A [oM m0 m1 m2 m3 m4 m5 m6 mf, aI cI m1 89 ms, aI cI m2 356 mp] := hD
      refine lv_if_ne (tgt := 33) hx hb dX6_set_27 (by decide) (fun c_27 => ?_) (fun c_27 => ?_)
      · refine lv_aload_n hx hb dX6_set_33 rfl (lv_at hl 0 rfl) ?_
        refine lv_bipush (v := 8) hx hb dX6_set_34 (by decide) ?_
        refine lv_iload_n hx hb dX6_set_36 rfl (lv_at hl 1 rfl) ?_
        refine lv_iadd hx hb dX6_set_37 ?_
        refine lv_iload_n hx hb dX6_set_38 rfl (lv_at hl 2 rfl) ?_
        refine ag_callVi (As := [.int (8 + p1), .int p2]) (rest := []) hx hb hml hown hG hK hN hA hP hD hS hl (ct_X6_sets l D cI cC cL m0 m1 m2 m3 m4 m5 m6 mf ms mp (8 + p1) p2 (8 + p1.toNatClampNeg) (set_ix c_6) hc) fX6_sets k_610 ag_cut_all (q0 := 0) rfl rfl rfl rfl (Nat.le_of_ble_eq_true rfl) ⟨Nat.le_of_ble_eq_true rfl, Nat.le_of_ble_eq_true rfl⟩ ⟨Nat.zero_le _, Nat.zero_le _⟩ dX6_set_39 (fun r w1 H locs hw hP hD hS => ?_)
        obtain ⟨rfl, hw⟩ := hw
        generalize eg39_1 : sw0_X6_sets mf = g39_1 at hw
        replace eg39_1 : gv39_1_X6_set mf = g39_1 := (by rw [← eg39_1]; rfl)
        generalize eg39_2 : sw1_X6_sets ms p2 (8 + p1.toNatClampNeg) = g39_2 at hw
        replace eg39_2 : gv39_2_X6_set ms p1 p2 = g39_2 := (by rw [← eg39_2]; rfl)
        generalize eg39_3 : sw2_X6_sets mf ms mp = g39_3 at hw
        replace eg39_3 : gv39_3_X6_set mf ms mp = g39_3 := (by rw [← eg39_3]; rfl)
        subst hw
        have hP : va_P D vwCl [oM m0 m1 m2 m3 m4 m5 m6 g39_1, aI cI m1 89 g39_2, aI cI m2 356 g39_3] H := hP
        have hD : va_D A [oM m0 m1 m2 m3 m4 m5 m6 g39_1, aI cI m1 89 g39_2, aI cI m2 356 g39_3] := hD
        revert hP; revert hD; revert hS; revert hl
        subst eg39_3
        subst eg39_2
        subst eg39_1
        intro hl hS hD hP
        exact ag_iret [m0, m1, m2] hx hb hr rfl hlocks hP hS rfl rfl ⟨(by unfold sr_X6_set; rw [if_neg c_6, if_neg c_27]), (by show _ = _; rw [show sw0_X6_set mf p1 p2 = (gv39_1_X6_set mf) from (by unfold sw0_X6_set; rw [if_neg c_6, if_neg c_27]), show sw1_X6_set ms p1 p2 = (gv39_2_X6_set ms p1 p2) from (by unfold sw1_X6_set; rw [if_neg c_6, if_neg c_27]), show sw2_X6_set mf ms mp p1 p2 = (gv39_3_X6_set mf ms mp) from (by unfold sw2_X6_set; rw [if_neg c_6, if_neg c_27])])⟩ dX6_set_42
      · refine lv_ldc (v := (-1000000001)) hx hb hown (hG _ k_618) dX6_set_30 ?_
        exact ag_iret [m0, m1, m2] hx hb hr rfl hlocks hP hS rfl rfl ⟨(by unfold sr_X6_set; rw [if_neg c_6, if_pos c_27]), (by show _ = _; rw [show sw0_X6_set mf p1 p2 = mf from (by unfold sw0_X6_set; rw [if_neg c_6, if_pos c_27]), show sw1_X6_set ms p1 p2 = ms from (by unfold sw1_X6_set; rw [if_neg c_6, if_pos c_27]), show sw2_X6_set mf ms mp p1 p2 = mp from (by unfold sw2_X6_set; rw [if_neg c_6, if_pos c_27])])⟩ dX6_set_32
    refine lv_icmp_ne (tgt := 19) hx hb dX6_set_12 (by decide) (fun c_12 => ?_) (fun c_12 => ?_)
    · refine lv_iconst (v := 1) hx hb dX6_set_19 (by decide) ?_
      simp only [j20_0_X6_set, if_neg c_12] at J20
      exact J20 _ (lv_sub hl [0, 1, 2] rfl)
    · refine lv_iconst (v := 0) hx hb dX6_set_15 (by decide) ?_
      refine lv_goto (tgt := 20) hx hb dX6_set_16 (by decide) ?_
      simp only [j20_0_X6_set, if_pos c_12] at J20
      exact J20 _ (lv_sub hl [0, 1, 2] rfl)
