/-! the model: calls -/
def gv114_1_X6_calls (mf : Nat → Int32) (md : Nat → Int32) : Nat → Int32 := sw0_X6_birds mf (md 0) (md 1)
def gv114_2_X6_calls (ms : Nat → Int32) (md : Nat → Int32) : Nat → Int32 := sw1_X6_birds ms (md 0) (md 1)
def gv114_3_X6_calls (mf : Nat → Int32) (ms : Nat → Int32) (mp : Nat → Int32) (md : Nat → Int32) : Nat → Int32 := sw2_X6_birds mf ms mp (md 0) (md 1)
def gv63_4_X6_calls (mf : Nat → Int32) (md : Nat → Int32) : Nat → Int32 := sw0_X6_gates mf (md 0)
def gv63_5_X6_calls (ms : Nat → Int32) (md : Nat → Int32) : Nat → Int32 := sw1_X6_gates ms (md 0)
def gv63_6_X6_calls (mf : Nat → Int32) (ms : Nat → Int32) (mp : Nat → Int32) (md : Nat → Int32) : Nat → Int32 := sw2_X6_gates mf ms mp (md 0)
def gv85_7_X6_calls (mf : Nat → Int32) (md : Nat → Int32) : Nat → Int32 := sw0_X6_pump mf (md 0)
def gv85_8_X6_calls (ms : Nat → Int32) (md : Nat → Int32) : Nat → Int32 := sw1_X6_pump ms (md 0)
def gv85_9_X6_calls (mf : Nat → Int32) (ms : Nat → Int32) (mp : Nat → Int32) (md : Nat → Int32) : Nat → Int32 := sw2_X6_pump mf ms mp (md 0)
def gv97_10_X6_calls (mf : Nat → Int32) (md : Nat → Int32) : Nat → Int32 := sw0_X6_pump mf (-(md 0))
def gv97_11_X6_calls (ms : Nat → Int32) (md : Nat → Int32) : Nat → Int32 := sw1_X6_pump ms (-(md 0))
def gv97_12_X6_calls (mf : Nat → Int32) (ms : Nat → Int32) (mp : Nat → Int32) (md : Nat → Int32) : Nat → Int32 := sw2_X6_pump mf ms mp (-(md 0))
def gv74_13_X6_calls (mf : Nat → Int32) (md : Nat → Int32) : Nat → Int32 := sw0_X6_turbines mf (md 0)
def gv74_14_X6_calls (ms : Nat → Int32) (md : Nat → Int32) : Nat → Int32 := sw1_X6_turbines ms (md 0)
def gv74_15_X6_calls (mf : Nat → Int32) (ms : Nat → Int32) (mp : Nat → Int32) (md : Nat → Int32) : Nat → Int32 := sw2_X6_turbines mf ms mp (md 0)
def gv125_16_X6_calls (mf : Nat → Int32) (ms : Nat → Int32) (md : Nat → Int32) : Nat → Int32 := sw0_X6_run mf ms (md 0)
def gv125_17_X6_calls (mf : Nat → Int32) (ms : Nat → Int32) (md : Nat → Int32) : Nat → Int32 := sw1_X6_run mf ms (md 0)
def gv125_18_X6_calls (mf : Nat → Int32) (ms : Nat → Int32) (mp : Nat → Int32) (md : Nat → Int32) : Nat → Int32 := sw2_X6_run mf ms mp (md 0)
def sr_X6_calls (mf : Nat → Int32) (ms : Nat → Int32) (md : Nat → Int32) : Int32 := if (mf 15) = 98 then sr_X6_birds (md 0) (md 1) else if (mf 15) = 103 then sr_X6_gates ms (md 0) else if (mf 15) = 112 then sr_X6_pump ms (md 0) else if (mf 15) = 113 then sr_X6_pump ms (-(md 0)) else if (mf 15) = 116 then sr_X6_turbines ms (md 0) else sr_X6_run mf ms (md 0)
def sw0_X6_calls (mf : Nat → Int32) (ms : Nat → Int32) (md : Nat → Int32) : Nat → Int32 := if (mf 15) = 98 then (gv114_1_X6_calls mf md) else if (mf 15) = 103 then (gv63_4_X6_calls mf md) else if (mf 15) = 112 then (gv85_7_X6_calls mf md) else if (mf 15) = 113 then (gv97_10_X6_calls mf md) else if (mf 15) = 116 then (gv74_13_X6_calls mf md) else (gv125_16_X6_calls mf ms md)
def sw1_X6_calls (mf : Nat → Int32) (ms : Nat → Int32) (md : Nat → Int32) : Nat → Int32 := if (mf 15) = 98 then (gv114_2_X6_calls ms md) else if (mf 15) = 103 then (gv63_5_X6_calls ms md) else if (mf 15) = 112 then (gv85_8_X6_calls ms md) else if (mf 15) = 113 then (gv97_11_X6_calls ms md) else if (mf 15) = 116 then (gv74_14_X6_calls ms md) else (gv125_17_X6_calls mf ms md)
def sw2_X6_calls (mf : Nat → Int32) (ms : Nat → Int32) (mp : Nat → Int32) (md : Nat → Int32) : Nat → Int32 := if (mf 15) = 98 then (gv114_3_X6_calls mf ms mp md) else if (mf 15) = 103 then (gv63_6_X6_calls mf ms mp md) else if (mf 15) = 112 then (gv85_9_X6_calls mf ms mp md) else if (mf 15) = 113 then (gv97_12_X6_calls mf ms mp md) else if (mf 15) = 116 then (gv74_15_X6_calls mf ms mp md) else (gv125_18_X6_calls mf ms mp md)
abbrev po_X6_calls (cI cC cL : ClassId) (m0 m1 m2 m3 m4 m5 m6 : Nat) (mf ms mp md : Nat → Int32) (hc : cq mf) (hq : mq ms) : Int32 → va_W → Prop := fun r w' => sr_X6_calls mf ms md = r ∧ [oM m0 m1 m2 m3 m4 m5 m6 (sw0_X6_calls mf ms md), aI cI m1 89 (sw1_X6_calls mf ms md), aI cI m2 356 (sw2_X6_calls mf ms mp md), aI cI m6 2 md] = w'
set_option maxHeartbeats 4000000 in
set_option maxRecDepth 100000 in
theorem ct_X6_calls (l : Launch) (D : va_G) (cI cC cL : ClassId) (m0 m1 m2 m3 m4 m5 m6 : Nat) (mf ms mp md : Nat → Int32) (hc : cq mf) (hq : mq ms) : ag_MI l yX6_calls cX6_calls 1 .int 8 170 D cI cC cL [.ref m0] [oM m0 m1 m2 m3 m4 m5 m6 mf, aI cI m1 89 ms, aI cI m2 356 mp, aI cI m6 2 md] (po_X6_calls cI cC cL m0 m1 m2 m3 m4 m5 m6 mf ms mp md hc hq) := by
  refine ag_MI.of (plainFor_of_name (by decide)) (Nat.le_of_ble_eq_true rfl) ?_
  intro p e s m below meth c hx hb hr hlocks hml hown hmn hG hK A hN hA H locs hP hD hS ls hl
  have hl : lv_has ls 1 [(0, .ref m0)] := hl
  refine lv_aload_n hx hb dX6_calls_0 rfl (lv_at hl 0 rfl) ?_
  refine ag_getX6 (v := .int (mf 15)) hx hb hG hown hK hP 0 20 rfl (by decide) k_556 rfl dX6_calls_1 ?_
  by_cases c_4_98 : (mf 15) = 98
  · refine lv_lookup (off := 97) (tgt := 101) hx hb dX6_calls_4 (by decide) (by rw [c_4_98]; rfl) (by decide) ?_
    refine lv_aload_n hx hb dX6_calls_101 rfl (lv_at hl 0 rfl) ?_
    refine lv_aload_n hx hb dX6_calls_102 rfl (lv_at hl 0 rfl) ?_
    refine ag_getX6 (v := .ref m6) hx hb hG hown hK hP 0 21 rfl (by decide) k_557 rfl dX6_calls_103 ?_
    refine lv_iconst (v := 0) hx hb dX6_calls_106 (by decide) ?_
    refine ag_ild (k := 0) (v := md 0) hx hb hK hP 3 rfl rfl (Nat.le_of_ble_eq_true rfl) (Nat.le_of_ble_eq_true rfl) rfl dX6_calls_107 ?_
    refine lv_aload_n hx hb dX6_calls_108 rfl (lv_at hl 0 rfl) ?_
    refine ag_getX6 (v := .ref m6) hx hb hG hown hK hP 0 21 rfl (by decide) k_557 rfl dX6_calls_109 ?_
    refine lv_iconst (v := 1) hx hb dX6_calls_112 (by decide) ?_
    refine ag_ild (k := 1) (v := md 1) hx hb hK hP 3 rfl rfl (Nat.le_of_ble_eq_true rfl) (Nat.le_of_ble_eq_true rfl) rfl dX6_calls_113 ?_
    refine ag_callVi (As := [.int (md 0), .int (md 1)]) (rest := []) hx hb hml hown hG hK hN hA hP hD hS hl (ct_X6_birds l D cI cC cL m0 m1 m2 m3 m4 m5 m6 mf ms mp (md 0) (md 1) hc) fX6_birds k_794 (ag_cut_1 [] [aI cI m6 2 md] rfl) (q0 := 0) rfl rfl rfl rfl (Nat.le_of_ble_eq_true rfl) ⟨Nat.le_of_ble_eq_true rfl, Nat.le_of_ble_eq_true rfl⟩ ⟨Nat.zero_le _, Nat.zero_le _⟩ dX6_calls_114 (fun r w1 H locs hw hP hD hS => ?_)
    obtain ⟨rfl, hw⟩ := hw
    generalize eg114_1 : sw0_X6_birds mf (md 0) (md 1) = g114_1 at hw
    replace eg114_1 : gv114_1_X6_calls mf md = g114_1 := (by rw [← eg114_1]; rfl)
    generalize eg114_2 : sw1_X6_birds ms (md 0) (md 1) = g114_2 at hw
    replace eg114_2 : gv114_2_X6_calls ms md = g114_2 := (by rw [← eg114_2]; rfl)
    generalize eg114_3 : sw2_X6_birds mf ms mp (md 0) (md 1) = g114_3 at hw
    replace eg114_3 : gv114_3_X6_calls mf ms mp md = g114_3 := (by rw [← eg114_3]; rfl)
    subst hw
    have hP : va_P D vwCl [oM m0 m1 m2 m3 m4 m5 m6 g114_1, aI cI m1 89 g114_2, aI cI m2 356 g114_3, aI cI m6 2 md] H := hP
    have hD : va_D A [oM m0 m1 m2 m3 m4 m5 m6 g114_1, aI cI m1 89 g114_2, aI cI m2 356 g114_3, aI cI m6 2 md] := hD
    revert hP; revert hD; revert hS; revert hl
    subst eg114_3
    subst eg114_2
    subst eg114_1
    intro hl hS hD hP
    exact ag_iret [m0, m1, m2, m6] hx hb hr rfl hlocks hP hS rfl rfl ⟨(by unfold sr_X6_calls; rw [if_pos c_4_98]), (by show _ = _; rw [show sw0_X6_calls mf ms md = (gv114_1_X6_calls mf md) from (by unfold sw0_X6_calls; rw [if_pos c_4_98]), show sw1_X6_calls mf ms md = (gv114_2_X6_calls ms md) from (by unfold sw1_X6_calls; rw [if_pos c_4_98]), show sw2_X6_calls mf ms mp md = (gv114_3_X6_calls mf ms mp md) from (by unfold sw2_X6_calls; rw [if_pos c_4_98])])⟩ dX6_calls_117
  · by_cases c_4_103 : (mf 15) = 103
    · refine lv_lookup (off := 52) (tgt := 56) hx hb dX6_calls_4 (by decide) (by rw [c_4_103]; rfl) (by decide) ?_
      refine lv_aload_n hx hb dX6_calls_56 rfl (lv_at hl 0 rfl) ?_
      refine lv_aload_n hx hb dX6_calls_57 rfl (lv_at hl 0 rfl) ?_
      refine ag_getX6 (v := .ref m6) hx hb hG hown hK hP 0 21 rfl (by decide) k_557 rfl dX6_calls_58 ?_
      refine lv_iconst (v := 0) hx hb dX6_calls_61 (by decide) ?_
      refine ag_ild (k := 0) (v := md 0) hx hb hK hP 3 rfl rfl (Nat.le_of_ble_eq_true rfl) (Nat.le_of_ble_eq_true rfl) rfl dX6_calls_62 ?_
      refine ag_callVi (As := [.int (md 0)]) (rest := []) hx hb hml hown hG hK hN hA hP hD hS hl (ct_X6_gates l D cI cC cL m0 m1 m2 m3 m4 m5 m6 mf ms mp (md 0) hc) fX6_gates k_791 (ag_cut_1 [] [aI cI m6 2 md] rfl) (q0 := 0) rfl rfl rfl rfl (Nat.le_of_ble_eq_true rfl) ⟨Nat.le_of_ble_eq_true rfl, Nat.le_of_ble_eq_true rfl⟩ ⟨Nat.zero_le _, Nat.zero_le _⟩ dX6_calls_63 (fun r w1 H locs hw hP hD hS => ?_)
      obtain ⟨rfl, hw⟩ := hw
      generalize eg63_4 : sw0_X6_gates mf (md 0) = g63_4 at hw
      replace eg63_4 : gv63_4_X6_calls mf md = g63_4 := (by rw [← eg63_4]; rfl)
      generalize eg63_5 : sw1_X6_gates ms (md 0) = g63_5 at hw
      replace eg63_5 : gv63_5_X6_calls ms md = g63_5 := (by rw [← eg63_5]; rfl)
      generalize eg63_6 : sw2_X6_gates mf ms mp (md 0) = g63_6 at hw
      replace eg63_6 : gv63_6_X6_calls mf ms mp md = g63_6 := (by rw [← eg63_6]; rfl)
      subst hw
      have hP : va_P D vwCl [oM m0 m1 m2 m3 m4 m5 m6 g63_4, aI cI m1 89 g63_5, aI cI m2 356 g63_6, aI cI m6 2 md] H := hP
      have hD : va_D A [oM m0 m1 m2 m3 m4 m5 m6 g63_4, aI cI m1 89 g63_5, aI cI m2 356 g63_6, aI cI m6 2 md] := hD
      revert hP; revert hD; revert hS; revert hl
      subst eg63_6
      subst eg63_5
      subst eg63_4
      intro hl hS hD hP
      exact ag_iret [m0, m1, m2, m6] hx hb hr rfl hlocks hP hS rfl rfl ⟨(by unfold sr_X6_calls; rw [if_neg c_4_98, if_pos c_4_103]), (by show _ = _; rw [show sw0_X6_calls mf ms md = (gv63_4_X6_calls mf md) from (by unfold sw0_X6_calls; rw [if_neg c_4_98, if_pos c_4_103]), show sw1_X6_calls mf ms md = (gv63_5_X6_calls ms md) from (by unfold sw1_X6_calls; rw [if_neg c_4_98, if_pos c_4_103]), show sw2_X6_calls mf ms mp md = (gv63_6_X6_calls mf ms mp md) from (by unfold sw2_X6_calls; rw [if_neg c_4_98, if_pos c_4_103])])⟩ dX6_calls_66
    · by_cases c_4_112 : (mf 15) = 112
      · refine lv_lookup (off := 74) (tgt := 78) hx hb dX6_calls_4 (by decide) (by rw [c_4_112]; rfl) (by decide) ?_
        refine lv_aload_n hx hb dX6_calls_78 rfl (lv_at hl 0 rfl) ?_
        refine lv_aload_n hx hb dX6_calls_79 rfl (lv_at hl 0 rfl) ?_
        refine ag_getX6 (v := .ref m6) hx hb hG hown hK hP 0 21 rfl (by decide) k_557 rfl dX6_calls_80 ?_
        refine lv_iconst (v := 0) hx hb dX6_calls_83 (by decide) ?_
        refine ag_ild (k := 0) (v := md 0) hx hb hK hP 3 rfl rfl (Nat.le_of_ble_eq_true rfl) (Nat.le_of_ble_eq_true rfl) rfl dX6_calls_84 ?_
        refine ag_callVi (As := [.int (md 0)]) (rest := []) hx hb hml hown hG hK hN hA hP hD hS hl (ct_X6_pump l D cI cC cL m0 m1 m2 m3 m4 m5 m6 mf ms mp (md 0) hc) fX6_pump k_793 (ag_cut_1 [] [aI cI m6 2 md] rfl) (q0 := 0) rfl rfl rfl rfl (Nat.le_of_ble_eq_true rfl) ⟨Nat.le_of_ble_eq_true rfl, Nat.le_of_ble_eq_true rfl⟩ ⟨Nat.zero_le _, Nat.zero_le _⟩ dX6_calls_85 (fun r w1 H locs hw hP hD hS => ?_)
        obtain ⟨rfl, hw⟩ := hw
        generalize eg85_7 : sw0_X6_pump mf (md 0) = g85_7 at hw
        replace eg85_7 : gv85_7_X6_calls mf md = g85_7 := (by rw [← eg85_7]; rfl)
        generalize eg85_8 : sw1_X6_pump ms (md 0) = g85_8 at hw
        replace eg85_8 : gv85_8_X6_calls ms md = g85_8 := (by rw [← eg85_8]; rfl)
        generalize eg85_9 : sw2_X6_pump mf ms mp (md 0) = g85_9 at hw
        replace eg85_9 : gv85_9_X6_calls mf ms mp md = g85_9 := (by rw [← eg85_9]; rfl)
        subst hw
        have hP : va_P D vwCl [oM m0 m1 m2 m3 m4 m5 m6 g85_7, aI cI m1 89 g85_8, aI cI m2 356 g85_9, aI cI m6 2 md] H := hP
        have hD : va_D A [oM m0 m1 m2 m3 m4 m5 m6 g85_7, aI cI m1 89 g85_8, aI cI m2 356 g85_9, aI cI m6 2 md] := hD
        revert hP; revert hD; revert hS; revert hl
        subst eg85_9
        subst eg85_8
        subst eg85_7
        intro hl hS hD hP
        exact ag_iret [m0, m1, m2, m6] hx hb hr rfl hlocks hP hS rfl rfl ⟨(by unfold sr_X6_calls; rw [if_neg c_4_98, if_neg c_4_103, if_pos c_4_112]), (by show _ = _; rw [show sw0_X6_calls mf ms md = (gv85_7_X6_calls mf md) from (by unfold sw0_X6_calls; rw [if_neg c_4_98, if_neg c_4_103, if_pos c_4_112]), show sw1_X6_calls mf ms md = (gv85_8_X6_calls ms md) from (by unfold sw1_X6_calls; rw [if_neg c_4_98, if_neg c_4_103, if_pos c_4_112]), show sw2_X6_calls mf ms mp md = (gv85_9_X6_calls mf ms mp md) from (by unfold sw2_X6_calls; rw [if_neg c_4_98, if_neg c_4_103, if_pos c_4_112])])⟩ dX6_calls_88
      · by_cases c_4_113 : (mf 15) = 113
        · refine lv_lookup (off := 85) (tgt := 89) hx hb dX6_calls_4 (by decide) (by rw [c_4_113]; rfl) (by decide) ?_
          refine lv_aload_n hx hb dX6_calls_89 rfl (lv_at hl 0 rfl) ?_
          refine lv_aload_n hx hb dX6_calls_90 rfl (lv_at hl 0 rfl) ?_
          refine ag_getX6 (v := .ref m6) hx hb hG hown hK hP 0 21 rfl (by decide) k_557 rfl dX6_calls_91 ?_
          refine lv_iconst (v := 0) hx hb dX6_calls_94 (by decide) ?_
          refine ag_ild (k := 0) (v := md 0) hx hb hK hP 3 rfl rfl (Nat.le_of_ble_eq_true rfl) (Nat.le_of_ble_eq_true rfl) rfl dX6_calls_95 ?_
          refine lv_ineg hx hb dX6_calls_96 ?_
          refine ag_callVi (As := [.int (-(md 0))]) (rest := []) hx hb hml hown hG hK hN hA hP hD hS hl (ct_X6_pump l D cI cC cL m0 m1 m2 m3 m4 m5 m6 mf ms mp (-(md 0)) hc) fX6_pump k_793 (ag_cut_1 [] [aI cI m6 2 md] rfl) (q0 := 0) rfl rfl rfl rfl (Nat.le_of_ble_eq_true rfl) ⟨Nat.le_of_ble_eq_true rfl, Nat.le_of_ble_eq_true rfl⟩ ⟨Nat.zero_le _, Nat.zero_le _⟩ dX6_calls_97 (fun r w1 H locs hw hP hD hS => ?_)
          obtain ⟨rfl, hw⟩ := hw
          generalize eg97_10 : sw0_X6_pump mf (-(md 0)) = g97_10 at hw
          replace eg97_10 : gv97_10_X6_calls mf md = g97_10 := (by rw [← eg97_10]; rfl)
          generalize eg97_11 : sw1_X6_pump ms (-(md 0)) = g97_11 at hw
          replace eg97_11 : gv97_11_X6_calls ms md = g97_11 := (by rw [← eg97_11]; rfl)
          generalize eg97_12 : sw2_X6_pump mf ms mp (-(md 0)) = g97_12 at hw
          replace eg97_12 : gv97_12_X6_calls mf ms mp md = g97_12 := (by rw [← eg97_12]; rfl)
          subst hw
          have hP : va_P D vwCl [oM m0 m1 m2 m3 m4 m5 m6 g97_10, aI cI m1 89 g97_11, aI cI m2 356 g97_12, aI cI m6 2 md] H := hP
          have hD : va_D A [oM m0 m1 m2 m3 m4 m5 m6 g97_10, aI cI m1 89 g97_11, aI cI m2 356 g97_12, aI cI m6 2 md] := hD
          revert hP; revert hD; revert hS; revert hl
          subst eg97_12
          subst eg97_11
          subst eg97_10
          intro hl hS hD hP
          exact ag_iret [m0, m1, m2, m6] hx hb hr rfl hlocks hP hS rfl rfl ⟨(by unfold sr_X6_calls; rw [if_neg c_4_98, if_neg c_4_103, if_neg c_4_112, if_pos c_4_113]), (by show _ = _; rw [show sw0_X6_calls mf ms md = (gv97_10_X6_calls mf md) from (by unfold sw0_X6_calls; rw [if_neg c_4_98, if_neg c_4_103, if_neg c_4_112, if_pos c_4_113]), show sw1_X6_calls mf ms md = (gv97_11_X6_calls ms md) from (by unfold sw1_X6_calls; rw [if_neg c_4_98, if_neg c_4_103, if_neg c_4_112, if_pos c_4_113]), show sw2_X6_calls mf ms mp md = (gv97_12_X6_calls mf ms mp md) from (by unfold sw2_X6_calls; rw [if_neg c_4_98, if_neg c_4_103, if_neg c_4_112, if_pos c_4_113])])⟩ dX6_calls_100
        · by_cases c_4_116 : (mf 15) = 116
          · refine lv_lookup (off := 63) (tgt := 67) hx hb dX6_calls_4 (by decide) (by rw [c_4_116]; rfl) (by decide) ?_
            refine lv_aload_n hx hb dX6_calls_67 rfl (lv_at hl 0 rfl) ?_
            refine lv_aload_n hx hb dX6_calls_68 rfl (lv_at hl 0 rfl) ?_
            refine ag_getX6 (v := .ref m6) hx hb hG hown hK hP 0 21 rfl (by decide) k_557 rfl dX6_calls_69 ?_
            refine lv_iconst (v := 0) hx hb dX6_calls_72 (by decide) ?_
            refine ag_ild (k := 0) (v := md 0) hx hb hK hP 3 rfl rfl (Nat.le_of_ble_eq_true rfl) (Nat.le_of_ble_eq_true rfl) rfl dX6_calls_73 ?_
            refine ag_callVi (As := [.int (md 0)]) (rest := []) hx hb hml hown hG hK hN hA hP hD hS hl (ct_X6_turbines l D cI cC cL m0 m1 m2 m3 m4 m5 m6 mf ms mp (md 0) hc) fX6_turbines k_792 (ag_cut_1 [] [aI cI m6 2 md] rfl) (q0 := 0) rfl rfl rfl rfl (Nat.le_of_ble_eq_true rfl) ⟨Nat.le_of_ble_eq_true rfl, Nat.le_of_ble_eq_true rfl⟩ ⟨Nat.zero_le _, Nat.zero_le _⟩ dX6_calls_74 (fun r w1 H locs hw hP hD hS => ?_)
            obtain ⟨rfl, hw⟩ := hw
            generalize eg74_13 : sw0_X6_turbines mf (md 0) = g74_13 at hw
            replace eg74_13 : gv74_13_X6_calls mf md = g74_13 := (by rw [← eg74_13]; rfl)
            generalize eg74_14 : sw1_X6_turbines ms (md 0) = g74_14 at hw
            replace eg74_14 : gv74_14_X6_calls ms md = g74_14 := (by rw [← eg74_14]; rfl)
            generalize eg74_15 : sw2_X6_turbines mf ms mp (md 0) = g74_15 at hw
            replace eg74_15 : gv74_15_X6_calls mf ms mp md = g74_15 := (by rw [← eg74_15]; rfl)
            subst hw
            have hP : va_P D vwCl [oM m0 m1 m2 m3 m4 m5 m6 g74_13, aI cI m1 89 g74_14, aI cI m2 356 g74_15, aI cI m6 2 md] H := hP
            have hD : va_D A [oM m0 m1 m2 m3 m4 m5 m6 g74_13, aI cI m1 89 g74_14, aI cI m2 356 g74_15, aI cI m6 2 md] := hD
            revert hP; revert hD; revert hS; revert hl
            subst eg74_15
            subst eg74_14
            subst eg74_13
            intro hl hS hD hP
            exact ag_iret [m0, m1, m2, m6] hx hb hr rfl hlocks hP hS rfl rfl ⟨(by unfold sr_X6_calls; rw [if_neg c_4_98, if_neg c_4_103, if_neg c_4_112, if_neg c_4_113, if_pos c_4_116]), (by show _ = _; rw [show sw0_X6_calls mf ms md = (gv74_13_X6_calls mf md) from (by unfold sw0_X6_calls; rw [if_neg c_4_98, if_neg c_4_103, if_neg c_4_112, if_neg c_4_113, if_pos c_4_116]), show sw1_X6_calls mf ms md = (gv74_14_X6_calls ms md) from (by unfold sw1_X6_calls; rw [if_neg c_4_98, if_neg c_4_103, if_neg c_4_112, if_neg c_4_113, if_pos c_4_116]), show sw2_X6_calls mf ms mp md = (gv74_15_X6_calls mf ms mp md) from (by unfold sw2_X6_calls; rw [if_neg c_4_98, if_neg c_4_103, if_neg c_4_112, if_neg c_4_113, if_pos c_4_116])])⟩ dX6_calls_77
          · refine lv_lookup (off := 114) (tgt := 118) hx hb dX6_calls_4 (by decide) (by show Op.lookupswitch.offset [(98, 97), (103, 52), (112, 74), (113, 85), (116, 63)] 114 (mf 15).toInt = _; rw [lv_osw (a := 98) c_4_98 rfl, lv_osw (a := 103) c_4_103 rfl, lv_osw (a := 112) c_4_112 rfl, lv_osw (a := 113) c_4_113 rfl, lv_osw (a := 116) c_4_116 rfl]; rfl) (by decide) ?_
            refine lv_aload_n hx hb dX6_calls_118 rfl (lv_at hl 0 rfl) ?_
            refine lv_aload_n hx hb dX6_calls_119 rfl (lv_at hl 0 rfl) ?_
            refine ag_getX6 (v := .ref m6) hx hb hG hown hK hP 0 21 rfl (by decide) k_557 rfl dX6_calls_120 ?_
            refine lv_iconst (v := 0) hx hb dX6_calls_123 (by decide) ?_
            refine ag_ild (k := 0) (v := md 0) hx hb hK hP 3 rfl rfl (Nat.le_of_ble_eq_true rfl) (Nat.le_of_ble_eq_true rfl) rfl dX6_calls_124 ?_
            refine ag_callVi (As := [.int (md 0)]) (rest := []) hx hb hml hown hG hK hN hA hP hD hS hl (ct_X6_run l D cI cC cL m0 m1 m2 m3 m4 m5 m6 mf ms mp (md 0) hc hq) fX6_run k_795 (ag_cut_1 [] [aI cI m6 2 md] rfl) (q0 := 0) rfl rfl rfl rfl (Nat.le_of_ble_eq_true rfl) ⟨Nat.le_of_ble_eq_true rfl, Nat.le_of_ble_eq_true rfl⟩ ⟨Nat.zero_le _, Nat.zero_le _⟩ dX6_calls_125 (fun r w1 H locs hw hP hD hS => ?_)
            obtain ⟨rfl, hw⟩ := hw
            generalize eg125_16 : sw0_X6_run mf ms (md 0) = g125_16 at hw
            replace eg125_16 : gv125_16_X6_calls mf ms md = g125_16 := (by rw [← eg125_16]; rfl)
            generalize eg125_17 : sw1_X6_run mf ms (md 0) = g125_17 at hw
            replace eg125_17 : gv125_17_X6_calls mf ms md = g125_17 := (by rw [← eg125_17]; rfl)
            generalize eg125_18 : sw2_X6_run mf ms mp (md 0) = g125_18 at hw
            replace eg125_18 : gv125_18_X6_calls mf ms mp md = g125_18 := (by rw [← eg125_18]; rfl)
            subst hw
            have hP : va_P D vwCl [oM m0 m1 m2 m3 m4 m5 m6 g125_16, aI cI m1 89 g125_17, aI cI m2 356 g125_18, aI cI m6 2 md] H := hP
            have hD : va_D A [oM m0 m1 m2 m3 m4 m5 m6 g125_16, aI cI m1 89 g125_17, aI cI m2 356 g125_18, aI cI m6 2 md] := hD
            revert hP; revert hD; revert hS; revert hl
            subst eg125_18
            subst eg125_17
            subst eg125_16
            intro hl hS hD hP
            exact ag_iret [m0, m1, m2, m6] hx hb hr rfl hlocks hP hS rfl rfl ⟨(by unfold sr_X6_calls; rw [if_neg c_4_98, if_neg c_4_103, if_neg c_4_112, if_neg c_4_113, if_neg c_4_116]), (by show _ = _; rw [show sw0_X6_calls mf ms md = (gv125_16_X6_calls mf ms md) from (by unfold sw0_X6_calls; rw [if_neg c_4_98, if_neg c_4_103, if_neg c_4_112, if_neg c_4_113, if_neg c_4_116]), show sw1_X6_calls mf ms md = (gv125_17_X6_calls mf ms md) from (by unfold sw1_X6_calls; rw [if_neg c_4_98, if_neg c_4_103, if_neg c_4_112, if_neg c_4_113, if_neg c_4_116]), show sw2_X6_calls mf ms mp md = (gv125_18_X6_calls mf ms mp md) from (by unfold sw2_X6_calls; rw [if_neg c_4_98, if_neg c_4_103, if_neg c_4_112, if_neg c_4_113, if_neg c_4_116])])⟩ dX6_calls_128
