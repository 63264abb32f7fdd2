/-! orders, the history -/
def gv102_1_X2_obey (tf : Nat → Int32) (f : Nat → Int32) : Nat → Int32 := sw0_X1_setBirds f (tf 3) (tf 4)
def gv61_2_X2_obey (tf : Nat → Int32) (f : Nat → Int32) : Nat → Int32 := sw0_X1_openGates f (tf 3)
def gv79_3_X2_obey (tf : Nat → Int32) (f : Nat → Int32) : Nat → Int32 := sw0_X1_setPump f (tf 3)
def gv89_4_X2_obey (tf : Nat → Int32) (f : Nat → Int32) : Nat → Int32 := sw0_X1_setPump f (-(tf 3))
def gv70_5_X2_obey (tf : Nat → Int32) (f : Nat → Int32) : Nat → Int32 := sw0_X1_openTurbines f (tf 3)
def gv112_6_X2_obey (tf : Nat → Int32) (f : Nat → Int32) (se : Nat → Int32) (to : Nat → Int32) (re : Nat → Int32) (kf : Nat → Int32) : Nat → Int32 := sw0_X1_runTicks f se to re kf (tf 3)
def gv112_7_X2_obey (tf : Nat → Int32) (f : Nat → Int32) (se : Nat → Int32) (to : Nat → Int32) (re : Nat → Int32) (kf : Nat → Int32) : Nat → Int32 := sw2_X1_runTicks f se to re kf (tf 3)
def gv112_8_X2_obey (tf : Nat → Int32) (f : Nat → Int32) (se : Nat → Int32) (to : Nat → Int32) (re : Nat → Int32) (kf : Nat → Int32) : Nat → Int32 := sw3_X1_runTicks f se to re kf (tf 3)
def gv112_9_X2_obey (tf : Nat → Int32) (f : Nat → Int32) (se : Nat → Int32) (to : Nat → Int32) (re : Nat → Int32) (kf : Nat → Int32) : Nat → Int32 := sw4_X1_runTicks f se to re kf (tf 3)
def sr_X2_obey (tf : Nat → Int32) (f : Nat → Int32) (se : Nat → Int32) (to : Nat → Int32) (re : Nat → Int32) (kf : Nat → Int32) : Int32 := if (tf 2) = 98 then sr_X1_setBirds (tf 3) (tf 4) else if (tf 2) = 103 then sr_X1_openGates f (tf 3) else if (tf 2) = 112 then sr_X1_setPump f (tf 3) else if (tf 2) = 113 then sr_X1_setPump f (-(tf 3)) else if (tf 2) = 116 then sr_X1_openTurbines f (tf 3) else sr_X1_runTicks f se to re kf (tf 3)
def sw2_X2_obey (tf : Nat → Int32) (f : Nat → Int32) (se : Nat → Int32) (to : Nat → Int32) (re : Nat → Int32) (kf : Nat → Int32) : Nat → Int32 := if (tf 2) = 98 then (gv102_1_X2_obey tf f) else if (tf 2) = 103 then (gv61_2_X2_obey tf f) else if (tf 2) = 112 then (gv79_3_X2_obey tf f) else if (tf 2) = 113 then (gv89_4_X2_obey tf f) else if (tf 2) = 116 then (gv70_5_X2_obey tf f) else (gv112_6_X2_obey tf f se to re kf)
def sw4_X2_obey (tf : Nat → Int32) (f : Nat → Int32) (se : Nat → Int32) (to : Nat → Int32) (re : Nat → Int32) (kf : Nat → Int32) : Nat → Int32 := if (tf 2) = 98 then to else if (tf 2) = 103 then to else if (tf 2) = 112 then to else if (tf 2) = 113 then to else if (tf 2) = 116 then to else (gv112_7_X2_obey tf f se to re kf)
def sw5_X2_obey (tf : Nat → Int32) (f : Nat → Int32) (se : Nat → Int32) (to : Nat → Int32) (re : Nat → Int32) (kf : Nat → Int32) : Nat → Int32 := if (tf 2) = 98 then re else if (tf 2) = 103 then re else if (tf 2) = 112 then re else if (tf 2) = 113 then re else if (tf 2) = 116 then re else (gv112_8_X2_obey tf f se to re kf)
def sw6_X2_obey (tf : Nat → Int32) (f : Nat → Int32) (se : Nat → Int32) (to : Nat → Int32) (re : Nat → Int32) (kf : Nat → Int32) : Nat → Int32 := if (tf 2) = 98 then kf else if (tf 2) = 103 then kf else if (tf 2) = 112 then kf else if (tf 2) = 113 then kf else if (tf 2) = 116 then kf else (gv112_9_X2_obey tf f se to re kf)
abbrev po_X2_obey (cI cC cL : ClassId) (y1 h t1 y2 h1 h2 h3 : Nat) (tf ch f se to re kf : Nat → Int32) : Int32 → va_W → Prop := fun r w' => sr_X2_obey tf f se to re kf = r ∧ [oT y1 y2 tf, aC cC y2 60 ch, oL h h1 h2 h3 (sw2_X2_obey tf f se to re kf), aI cI h1 3 se, aI cI h2 7 (sw4_X2_obey tf f se to re kf), aI cI h3 60 (sw5_X2_obey tf f se to re kf), oK t1 (sw6_X2_obey tf f se to re kf)] = w'
set_option maxHeartbeats 4000000 in
set_option maxRecDepth 100000 in
theorem ct_X2_obey (l : Launch) (D : va_G) (cI cC cL : ClassId) (y1 h t1 y2 h1 h2 h3 : Nat) (tf ch f se to re kf : Nat → Int32) : ag_MI l yX2_obey cX2_obey 3 .int 5 110 D cI cC cL [.ref y1, .ref h, .ref t1] [oT y1 y2 tf, aC cC y2 60 ch, oL h h1 h2 h3 f, aI cI h1 3 se, aI cI h2 7 to, aI cI h3 60 re, oK t1 kf] (po_X2_obey cI cC cL y1 h t1 y2 h1 h2 h3 tf ch f se to re kf) := by
  refine ag_MI.of (plainFor_of_name (by decide)) (Nat.le_of_ble_eq_true rfl) ?_
  intro p e s m below meth c hx hb hr hlocks hml hown hmn hG hK A hN hA H locs hP hD hS ls hl
  have hl : lv_has ls 3 [(0, .ref y1), (1, .ref h), (2, .ref t1)] := hl
  refine lv_aload_n hx hb dX2_obey_0 rfl (lv_at hl 0 rfl) ?_
  refine ag_getX3 (v := .int (tf 2)) hx hb hG hown hK hP 0 3 rfl (by decide) k_174 rfl dX2_obey_1 ?_
  by_cases c_4_98 : (tf 2) = 98
  · refine lv_lookup (off := 89) (tgt := 93) hx hb dX2_obey_4 (by decide) (by rw [c_4_98]; rfl) (by decide) ?_
    refine lv_aload_n hx hb dX2_obey_93 rfl (lv_at hl 1 rfl) ?_
    refine lv_aload_n hx hb dX2_obey_94 rfl (lv_at hl 0 rfl) ?_
    refine ag_getX3 (v := .int (tf 3)) hx hb hG hown hK hP 0 4 rfl (by decide) k_177 rfl dX2_obey_95 ?_
    refine lv_aload_n hx hb dX2_obey_98 rfl (lv_at hl 0 rfl) ?_
    refine ag_getX3 (v := .int (tf 4)) hx hb hG hown hK hP 0 5 rfl (by decide) k_179 rfl dX2_obey_99 ?_
    refine ag_callVi (As := [.int (tf 3), .int (tf 4)]) (rest := []) hx hb hml hown hG hK hN hA hP hD hS hl (ct_X1_setBirds l D cI cC cL h h1 h2 h3 f se to re (tf 3) (tf 4)) fX1_setBirds k_522 (ag_cut_1 [oT y1 y2 tf, aC cC y2 60 ch] [oK t1 kf] rfl) (q0 := 2) rfl rfl rfl rfl (Nat.le_of_ble_eq_true rfl) ⟨Nat.le_of_ble_eq_true rfl, Nat.le_of_ble_eq_true rfl⟩ ⟨Nat.zero_le _, Nat.zero_le _⟩ dX2_obey_102 (fun r w1 H locs hw hP hD hS => ?_)
    obtain ⟨rfl, hw⟩ := hw
    generalize eg102_1 : sw0_X1_setBirds f (tf 3) (tf 4) = g102_1 at hw
    replace eg102_1 : gv102_1_X2_obey tf f = g102_1 := (by rw [← eg102_1]; rfl)
    subst hw
    have hP : va_P D vwCl [oT y1 y2 tf, aC cC y2 60 ch, oL h h1 h2 h3 g102_1, aI cI h1 3 se, aI cI h2 7 to, aI cI h3 60 re, oK t1 kf] H := hP
    have hD : va_D A [oT y1 y2 tf, aC cC y2 60 ch, oL h h1 h2 h3 g102_1, aI cI h1 3 se, aI cI h2 7 to, aI cI h3 60 re, oK t1 kf] := hD
    revert hP; revert hD; revert hS; revert hl
    subst eg102_1
    intro hl hS hD hP
    exact ag_iret [y1, y2, h, h1, h2, h3, t1] hx hb hr rfl hlocks hP hS rfl rfl ⟨(by unfold sr_X2_obey; rw [if_pos c_4_98]), (by show _ = _; rw [show sw2_X2_obey tf f se to re kf = (gv102_1_X2_obey tf f) from (by unfold sw2_X2_obey; rw [if_pos c_4_98]), show sw4_X2_obey tf f se to re kf = to from (by unfold sw4_X2_obey; rw [if_pos c_4_98]), show sw5_X2_obey tf f se to re kf = re from (by unfold sw5_X2_obey; rw [if_pos c_4_98]), show sw6_X2_obey tf f se to re kf = kf from (by unfold sw6_X2_obey; rw [if_pos c_4_98])])⟩ dX2_obey_105
  · by_cases c_4_103 : (tf 2) = 103
    · refine lv_lookup (off := 52) (tgt := 56) hx hb dX2_obey_4 (by decide) (by rw [c_4_103]; rfl) (by decide) ?_
      refine lv_aload_n hx hb dX2_obey_56 rfl (lv_at hl 1 rfl) ?_
      refine lv_aload_n hx hb dX2_obey_57 rfl (lv_at hl 0 rfl) ?_
      refine ag_getX3 (v := .int (tf 3)) hx hb hG hown hK hP 0 4 rfl (by decide) k_177 rfl dX2_obey_58 ?_
      refine ag_callVi (As := [.int (tf 3)]) (rest := []) hx hb hml hown hG hK hN hA hP hD hS hl (ct_X1_openGates l D cI cC cL h h1 h2 h3 f se to re (tf 3)) fX1_openGates k_519 (ag_cut_1 [oT y1 y2 tf, aC cC y2 60 ch] [oK t1 kf] rfl) (q0 := 2) rfl rfl rfl rfl (Nat.le_of_ble_eq_true rfl) ⟨Nat.le_of_ble_eq_true rfl, Nat.le_of_ble_eq_true rfl⟩ ⟨Nat.zero_le _, Nat.zero_le _⟩ dX2_obey_61 (fun r w1 H locs hw hP hD hS => ?_)
      obtain ⟨rfl, hw⟩ := hw
      generalize eg61_2 : sw0_X1_openGates f (tf 3) = g61_2 at hw
      replace eg61_2 : gv61_2_X2_obey tf f = g61_2 := (by rw [← eg61_2]; rfl)
      subst hw
      have hP : va_P D vwCl [oT y1 y2 tf, aC cC y2 60 ch, oL h h1 h2 h3 g61_2, aI cI h1 3 se, aI cI h2 7 to, aI cI h3 60 re, oK t1 kf] H := hP
      have hD : va_D A [oT y1 y2 tf, aC cC y2 60 ch, oL h h1 h2 h3 g61_2, aI cI h1 3 se, aI cI h2 7 to, aI cI h3 60 re, oK t1 kf] := hD
      revert hP; revert hD; revert hS; revert hl
      subst eg61_2
      intro hl hS hD hP
      exact ag_iret [y1, y2, h, h1, h2, h3, t1] hx hb hr rfl hlocks hP hS rfl rfl ⟨(by unfold sr_X2_obey; rw [if_neg c_4_98, if_pos c_4_103]), (by show _ = _; rw [show sw2_X2_obey tf f se to re kf = (gv61_2_X2_obey tf f) from (by unfold sw2_X2_obey; rw [if_neg c_4_98, if_pos c_4_103]), show sw4_X2_obey tf f se to re kf = to from (by unfold sw4_X2_obey; rw [if_neg c_4_98, if_pos c_4_103]), show sw5_X2_obey tf f se to re kf = re from (by unfold sw5_X2_obey; rw [if_neg c_4_98, if_pos c_4_103]), show sw6_X2_obey tf f se to re kf = kf from (by unfold sw6_X2_obey; rw [if_neg c_4_98, if_pos c_4_103])])⟩ dX2_obey_64
    · by_cases c_4_112 : (tf 2) = 112
      · refine lv_lookup (off := 70) (tgt := 74) hx hb dX2_obey_4 (by decide) (by rw [c_4_112]; rfl) (by decide) ?_
        refine lv_aload_n hx hb dX2_obey_74 rfl (lv_at hl 1 rfl) ?_
        refine lv_aload_n hx hb dX2_obey_75 rfl (lv_at hl 0 rfl) ?_
        refine ag_getX3 (v := .int (tf 3)) hx hb hG hown hK hP 0 4 rfl (by decide) k_177 rfl dX2_obey_76 ?_
        refine ag_callVi (As := [.int (tf 3)]) (rest := []) hx hb hml hown hG hK hN hA hP hD hS hl (ct_X1_setPump l D cI cC cL h h1 h2 h3 f se to re (tf 3)) fX1_setPump k_521 (ag_cut_1 [oT y1 y2 tf, aC cC y2 60 ch] [oK t1 kf] rfl) (q0 := 2) rfl rfl rfl rfl (Nat.le_of_ble_eq_true rfl) ⟨Nat.le_of_ble_eq_true rfl, Nat.le_of_ble_eq_true rfl⟩ ⟨Nat.zero_le _, Nat.zero_le _⟩ dX2_obey_79 (fun r w1 H locs hw hP hD hS => ?_)
        obtain ⟨rfl, hw⟩ := hw
        generalize eg79_3 : sw0_X1_setPump f (tf 3) = g79_3 at hw
        replace eg79_3 : gv79_3_X2_obey tf f = g79_3 := (by rw [← eg79_3]; rfl)
        subst hw
        have hP : va_P D vwCl [oT y1 y2 tf, aC cC y2 60 ch, oL h h1 h2 h3 g79_3, aI cI h1 3 se, aI cI h2 7 to, aI cI h3 60 re, oK t1 kf] H := hP
        have hD : va_D A [oT y1 y2 tf, aC cC y2 60 ch, oL h h1 h2 h3 g79_3, aI cI h1 3 se, aI cI h2 7 to, aI cI h3 60 re, oK t1 kf] := hD
        revert hP; revert hD; revert hS; revert hl
        subst eg79_3
        intro hl hS hD hP
        exact ag_iret [y1, y2, h, h1, h2, h3, t1] hx hb hr rfl hlocks hP hS rfl rfl ⟨(by unfold sr_X2_obey; rw [if_neg c_4_98, if_neg c_4_103, if_pos c_4_112]), (by show _ = _; rw [show sw2_X2_obey tf f se to re kf = (gv79_3_X2_obey tf f) from (by unfold sw2_X2_obey; rw [if_neg c_4_98, if_neg c_4_103, if_pos c_4_112]), show sw4_X2_obey tf f se to re kf = to from (by unfold sw4_X2_obey; rw [if_neg c_4_98, if_neg c_4_103, if_pos c_4_112]), show sw5_X2_obey tf f se to re kf = re from (by unfold sw5_X2_obey; rw [if_neg c_4_98, if_neg c_4_103, if_pos c_4_112]), show sw6_X2_obey tf f se to re kf = kf from (by unfold sw6_X2_obey; rw [if_neg c_4_98, if_neg c_4_103, if_pos c_4_112])])⟩ dX2_obey_82
      · by_cases c_4_113 : (tf 2) = 113
        · refine lv_lookup (off := 79) (tgt := 83) hx hb dX2_obey_4 (by decide) (by rw [c_4_113]; rfl) (by decide) ?_
          refine lv_aload_n hx hb dX2_obey_83 rfl (lv_at hl 1 rfl) ?_
          refine lv_aload_n hx hb dX2_obey_84 rfl (lv_at hl 0 rfl) ?_
          refine ag_getX3 (v := .int (tf 3)) hx hb hG hown hK hP 0 4 rfl (by decide) k_177 rfl dX2_obey_85 ?_
          refine lv_ineg hx hb dX2_obey_88 ?_
          refine ag_callVi (As := [.int (-(tf 3))]) (rest := []) hx hb hml hown hG hK hN hA hP hD hS hl (ct_X1_setPump l D cI cC cL h h1 h2 h3 f se to re (-(tf 3))) fX1_setPump k_521 (ag_cut_1 [oT y1 y2 tf, aC cC y2 60 ch] [oK t1 kf] rfl) (q0 := 2) rfl rfl rfl rfl (Nat.le_of_ble_eq_true rfl) ⟨Nat.le_of_ble_eq_true rfl, Nat.le_of_ble_eq_true rfl⟩ ⟨Nat.zero_le _, Nat.zero_le _⟩ dX2_obey_89 (fun r w1 H locs hw hP hD hS => ?_)
          obtain ⟨rfl, hw⟩ := hw
          generalize eg89_4 : sw0_X1_setPump f (-(tf 3)) = g89_4 at hw
          replace eg89_4 : gv89_4_X2_obey tf f = g89_4 := (by rw [← eg89_4]; rfl)
          subst hw
          have hP : va_P D vwCl [oT y1 y2 tf, aC cC y2 60 ch, oL h h1 h2 h3 g89_4, aI cI h1 3 se, aI cI h2 7 to, aI cI h3 60 re, oK t1 kf] H := hP
          have hD : va_D A [oT y1 y2 tf, aC cC y2 60 ch, oL h h1 h2 h3 g89_4, aI cI h1 3 se, aI cI h2 7 to, aI cI h3 60 re, oK t1 kf] := hD
          revert hP; revert hD; revert hS; revert hl
          subst eg89_4
          intro hl hS hD hP
          exact ag_iret [y1, y2, h, h1, h2, h3, t1] hx hb hr rfl hlocks hP hS rfl rfl ⟨(by unfold sr_X2_obey; rw [if_neg c_4_98, if_neg c_4_103, if_neg c_4_112, if_pos c_4_113]), (by show _ = _; rw [show sw2_X2_obey tf f se to re kf = (gv89_4_X2_obey tf f) from (by unfold sw2_X2_obey; rw [if_neg c_4_98, if_neg c_4_103, if_neg c_4_112, if_pos c_4_113]), show sw4_X2_obey tf f se to re kf = to from (by unfold sw4_X2_obey; rw [if_neg c_4_98, if_neg c_4_103, if_neg c_4_112, if_pos c_4_113]), show sw5_X2_obey tf f se to re kf = re from (by unfold sw5_X2_obey; rw [if_neg c_4_98, if_neg c_4_103, if_neg c_4_112, if_pos c_4_113]), show sw6_X2_obey tf f se to re kf = kf from (by unfold sw6_X2_obey; rw [if_neg c_4_98, if_neg c_4_103, if_neg c_4_112, if_pos c_4_113])])⟩ dX2_obey_92
        · by_cases c_4_116 : (tf 2) = 116
          · refine lv_lookup (off := 61) (tgt := 65) hx hb dX2_obey_4 (by decide) (by rw [c_4_116]; rfl) (by decide) ?_
            refine lv_aload_n hx hb dX2_obey_65 rfl (lv_at hl 1 rfl) ?_
            refine lv_aload_n hx hb dX2_obey_66 rfl (lv_at hl 0 rfl) ?_
            refine ag_getX3 (v := .int (tf 3)) hx hb hG hown hK hP 0 4 rfl (by decide) k_177 rfl dX2_obey_67 ?_
            refine ag_callVi (As := [.int (tf 3)]) (rest := []) hx hb hml hown hG hK hN hA hP hD hS hl (ct_X1_openTurbines l D cI cC cL h h1 h2 h3 f se to re (tf 3)) fX1_openTurbines k_520 (ag_cut_1 [oT y1 y2 tf, aC cC y2 60 ch] [oK t1 kf] rfl) (q0 := 2) rfl rfl rfl rfl (Nat.le_of_ble_eq_true rfl) ⟨Nat.le_of_ble_eq_true rfl, Nat.le_of_ble_eq_true rfl⟩ ⟨Nat.zero_le _, Nat.zero_le _⟩ dX2_obey_70 (fun r w1 H locs hw hP hD hS => ?_)
            obtain ⟨rfl, hw⟩ := hw
            generalize eg70_5 : sw0_X1_openTurbines f (tf 3) = g70_5 at hw
            replace eg70_5 : gv70_5_X2_obey tf f = g70_5 := (by rw [← eg70_5]; rfl)
            subst hw
            have hP : va_P D vwCl [oT y1 y2 tf, aC cC y2 60 ch, oL h h1 h2 h3 g70_5, aI cI h1 3 se, aI cI h2 7 to, aI cI h3 60 re, oK t1 kf] H := hP
            have hD : va_D A [oT y1 y2 tf, aC cC y2 60 ch, oL h h1 h2 h3 g70_5, aI cI h1 3 se, aI cI h2 7 to, aI cI h3 60 re, oK t1 kf] := hD
            revert hP; revert hD; revert hS; revert hl
            subst eg70_5
            intro hl hS hD hP
            exact ag_iret [y1, y2, h, h1, h2, h3, t1] hx hb hr rfl hlocks hP hS rfl rfl ⟨(by unfold sr_X2_obey; rw [if_neg c_4_98, if_neg c_4_103, if_neg c_4_112, if_neg c_4_113, if_pos c_4_116]), (by show _ = _; rw [show sw2_X2_obey tf f se to re kf = (gv70_5_X2_obey tf f) from (by unfold sw2_X2_obey; rw [if_neg c_4_98, if_neg c_4_103, if_neg c_4_112, if_neg c_4_113, if_pos c_4_116]), show sw4_X2_obey tf f se to re kf = to from (by unfold sw4_X2_obey; rw [if_neg c_4_98, if_neg c_4_103, if_neg c_4_112, if_neg c_4_113, if_pos c_4_116]), show sw5_X2_obey tf f se to re kf = re from (by unfold sw5_X2_obey; rw [if_neg c_4_98, if_neg c_4_103, if_neg c_4_112, if_neg c_4_113, if_pos c_4_116]), show sw6_X2_obey tf f se to re kf = kf from (by unfold sw6_X2_obey; rw [if_neg c_4_98, if_neg c_4_103, if_neg c_4_112, if_neg c_4_113, if_pos c_4_116])])⟩ dX2_obey_73
          · refine lv_lookup (off := 102) (tgt := 106) hx hb dX2_obey_4 (by decide) (by show Op.lookupswitch.offset [(98, 89), (103, 52), (112, 70), (113, 79), (116, 61)] 102 (tf 2).toInt = _; rw [lv_osw (a := 98) c_4_98 rfl, lv_osw (a := 103) c_4_103 rfl, lv_osw (a := 112) c_4_112 rfl, lv_osw (a := 113) c_4_113 rfl, lv_osw (a := 116) c_4_116 rfl]; rfl) (by decide) ?_
            refine lv_aload_n hx hb dX2_obey_106 rfl (lv_at hl 1 rfl) ?_
            refine lv_aload_n hx hb dX2_obey_107 rfl (lv_at hl 0 rfl) ?_
            refine ag_getX3 (v := .int (tf 3)) hx hb hG hown hK hP 0 4 rfl (by decide) k_177 rfl dX2_obey_108 ?_
            refine lv_aload_n hx hb dX2_obey_111 rfl (lv_at hl 2 rfl) ?_
            refine ag_callVi (As := [.int (tf 3), .ref t1]) (rest := []) hx hb hml hown hG hK hN hA hP hD hS hl (ct_X1_runTicks l D cI cC cL h t1 h1 h2 h3 f se to re kf (tf 3)) fX1_runTicks k_523 (ag_cut_1 [oT y1 y2 tf, aC cC y2 60 ch] [] rfl) (q0 := 2) rfl rfl rfl rfl (Nat.le_of_ble_eq_true rfl) ⟨Nat.le_of_ble_eq_true rfl, Nat.le_of_ble_eq_true rfl⟩ ⟨Nat.zero_le _, Nat.zero_le _⟩ dX2_obey_112 (fun r w1 H locs hw hP hD hS => ?_)
            obtain ⟨rfl, hw⟩ := hw
            generalize eg112_6 : sw0_X1_runTicks f se to re kf (tf 3) = g112_6 at hw
            replace eg112_6 : gv112_6_X2_obey tf f se to re kf = g112_6 := (by rw [← eg112_6]; rfl)
            generalize eg112_7 : sw2_X1_runTicks f se to re kf (tf 3) = g112_7 at hw
            replace eg112_7 : gv112_7_X2_obey tf f se to re kf = g112_7 := (by rw [← eg112_7]; rfl)
            generalize eg112_8 : sw3_X1_runTicks f se to re kf (tf 3) = g112_8 at hw
            replace eg112_8 : gv112_8_X2_obey tf f se to re kf = g112_8 := (by rw [← eg112_8]; rfl)
            generalize eg112_9 : sw4_X1_runTicks f se to re kf (tf 3) = g112_9 at hw
            replace eg112_9 : gv112_9_X2_obey tf f se to re kf = g112_9 := (by rw [← eg112_9]; rfl)
            subst hw
            have hP : va_P D vwCl [oT y1 y2 tf, aC cC y2 60 ch, oL h h1 h2 h3 g112_6, aI cI h1 3 se, aI cI h2 7 g112_7, aI cI h3 60 g112_8, oK t1 g112_9] H := hP
            have hD : va_D A [oT y1 y2 tf, aC cC y2 60 ch, oL h h1 h2 h3 g112_6, aI cI h1 3 se, aI cI h2 7 g112_7, aI cI h3 60 g112_8, oK t1 g112_9] := hD
            revert hP; revert hD; revert hS; revert hl
            subst eg112_9
            subst eg112_8
            subst eg112_7
            subst eg112_6
            intro hl hS hD hP
            exact ag_iret [y1, y2, h, h1, h2, h3, t1] hx hb hr rfl hlocks hP hS rfl rfl ⟨(by unfold sr_X2_obey; rw [if_neg c_4_98, if_neg c_4_103, if_neg c_4_112, if_neg c_4_113, if_neg c_4_116]), (by show _ = _; rw [show sw2_X2_obey tf f se to re kf = (gv112_6_X2_obey tf f se to re kf) from (by unfold sw2_X2_obey; rw [if_neg c_4_98, if_neg c_4_103, if_neg c_4_112, if_neg c_4_113, if_neg c_4_116]), show sw4_X2_obey tf f se to re kf = (gv112_7_X2_obey tf f se to re kf) from (by unfold sw4_X2_obey; rw [if_neg c_4_98, if_neg c_4_103, if_neg c_4_112, if_neg c_4_113, if_neg c_4_116]), show sw5_X2_obey tf f se to re kf = (gv112_8_X2_obey tf f se to re kf) from (by unfold sw5_X2_obey; rw [if_neg c_4_98, if_neg c_4_103, if_neg c_4_112, if_neg c_4_113, if_neg c_4_116]), show sw6_X2_obey tf f se to re kf = (gv112_9_X2_obey tf f se to re kf) from (by unfold sw6_X2_obey; rw [if_neg c_4_98, if_neg c_4_103, if_neg c_4_112, if_neg c_4_113, if_neg c_4_116])])⟩ dX2_obey_115
abbrev plu : Type := (Nat → Int32) × (Nat → Int32) × (Nat → Int32) × (Nat → Int32) × (Nat → Int32) × (Nat → Int32)
def plT (ch : Nat → Int32) (x : plu) : Nat → Int32 := sw0_X3_readOrder x.2.1 ch
def plR (se ch : Nat → Int32) (x : plu) : Int32 := sr_X2_obey (plT ch x) x.2.2.1 se x.2.2.2.1 x.2.2.2.2.1 x.2.2.2.2.2
def plO (se ch : Nat → Int32) (x : plu) : ltu := (sw2_X2_obey (plT ch x) x.2.2.1 se x.2.2.2.1 x.2.2.2.2.1 x.2.2.2.2.2, sw4_X2_obey (plT ch x) x.2.2.1 se x.2.2.2.1 x.2.2.2.2.1 x.2.2.2.2.2, sw5_X2_obey (plT ch x) x.2.2.1 se x.2.2.2.1 x.2.2.2.2.1 x.2.2.2.2.2, sw6_X2_obey (plT ch x) x.2.2.1 se x.2.2.2.1 x.2.2.2.2.1 x.2.2.2.2.2)
/-- a text's orders from a place on, so many at most: the player, the text, the lagoon, its sums, its records, the tick -/
def pl (se ch : Nat → Int32) : Nat → plu → plu
  | 0, x => x
  | n + 1, x =>
    if x.2.1 0 ≤ x.2.1 1 then x
    else if sr_X3_readOrder x.2.1 ch = 0 then (upd (upd (upd x.1 1 (x.2.1 1)) 2 1) 3 (plT ch x 1 - x.2.1 1), plT ch x, x.2.2)
    else if sr_X5_isError (plR se ch x) = 0 then pl se ch n (upd (upd x.1 1 (x.2.1 1)) 0 (x.1 0 + 1), plT ch x, plO se ch x)
    else (upd (upd (upd x.1 1 (x.2.1 1)) 2 2) 3 (plR se ch x), plT ch x, plO se ch x)
theorem pl_a {se ch : Nat → Int32} {n : Nat} {x : plu} (h : x.2.1 0 ≤ x.2.1 1) : pl se ch (n + 1) x = x := by rw [pl, if_pos h]
theorem pl_b {se ch : Nat → Int32} {n : Nat} {x : plu} (h : ¬ x.2.1 0 ≤ x.2.1 1) (h2 : sr_X3_readOrder x.2.1 ch = 0) : pl se ch (n + 1) x = (upd (upd (upd x.1 1 (x.2.1 1)) 2 1) 3 (plT ch x 1 - x.2.1 1), plT ch x, x.2.2) := by rw [pl, if_neg h, if_pos h2]
theorem pl_c {se ch : Nat → Int32} {n : Nat} {x : plu} (h : ¬ x.2.1 0 ≤ x.2.1 1) (h2 : ¬ sr_X3_readOrder x.2.1 ch = 0) (h3 : sr_X5_isError (plR se ch x) = 0) : pl se ch (n + 1) x = pl se ch n (upd (upd x.1 1 (x.2.1 1)) 0 (x.1 0 + 1), plT ch x, plO se ch x) := by rw [pl, if_neg h, if_neg h2, if_pos h3]
theorem pl_d {se ch : Nat → Int32} {n : Nat} {x : plu} (h : ¬ x.2.1 0 ≤ x.2.1 1) (h2 : ¬ sr_X3_readOrder x.2.1 ch = 0) (h3 : ¬ sr_X5_isError (plR se ch x) = 0) : pl se ch (n + 1) x = (upd (upd (upd x.1 1 (x.2.1 1)) 2 2) 3 (plR se ch x), plT ch x, plO se ch x) := by rw [pl, if_neg h, if_neg h2, if_neg h3]

def gv45_1_X2_perform (ch : Nat → Int32) (xi : Nat → Int32) : Nat → Int32 := sw0_X3_readOrder xi ch
def gv73_2_X2_perform (ch : Nat → Int32) (se : Nat → Int32) (xi : Nat → Int32) (fi : Nat → Int32) (ti : Nat → Int32) (ri : Nat → Int32) (ki : Nat → Int32) : Nat → Int32 := sw2_X2_obey (gv45_1_X2_perform ch xi) fi se ti ri ki
def gv73_3_X2_perform (ch : Nat → Int32) (se : Nat → Int32) (xi : Nat → Int32) (fi : Nat → Int32) (ti : Nat → Int32) (ri : Nat → Int32) (ki : Nat → Int32) : Nat → Int32 := sw4_X2_obey (gv45_1_X2_perform ch xi) fi se ti ri ki
def gv73_4_X2_perform (ch : Nat → Int32) (se : Nat → Int32) (xi : Nat → Int32) (fi : Nat → Int32) (ti : Nat → Int32) (ri : Nat → Int32) (ki : Nat → Int32) : Nat → Int32 := sw5_X2_obey (gv45_1_X2_perform ch xi) fi se ti ri ki
def gv73_5_X2_perform (ch : Nat → Int32) (se : Nat → Int32) (xi : Nat → Int32) (fi : Nat → Int32) (ti : Nat → Int32) (ri : Nat → Int32) (ki : Nat → Int32) : Nat → Int32 := sw6_X2_obey (gv45_1_X2_perform ch xi) fi se ti ri ki
def xv105_6_X2_perform (qi : Nat → Int32) : Int32 := (qi 0) + 1
def xv94_7_X2_perform (ch : Nat → Int32) (se : Nat → Int32) (xi : Nat → Int32) (fi : Nat → Int32) (ti : Nat → Int32) (ri : Nat → Int32) (ki : Nat → Int32) : Int32 := sr_X2_obey (gv45_1_X2_perform ch xi) fi se ti ri ki
def xv66_8_X2_perform (ch : Nat → Int32) (xi : Nat → Int32) : Int32 := ((gv45_1_X2_perform ch xi) 1) - (xi 1)
abbrev po_X2_perform (cI cC cL : ClassId) (z1 y1 h t1 y2 h1 h2 h3 : Nat) (pf tf ch f se to re kf : Nat → Int32) (hch : ∀ j : Nat, ∃ q : Nat, q < 128 ∧ ch j = nI q) : va_W → Prop := fun w' => [oP z1 ((pl se ch 60 (upd (upd pf 0 0) 2 0, upd tf 1 0, f, to, re, kf)).1), oT y1 y2 ((pl se ch 60 (upd (upd pf 0 0) 2 0, upd tf 1 0, f, to, re, kf)).2.1), aC cC y2 60 ch, oL h h1 h2 h3 ((pl se ch 60 (upd (upd pf 0 0) 2 0, upd tf 1 0, f, to, re, kf)).2.2.1), aI cI h1 3 se, aI cI h2 7 ((pl se ch 60 (upd (upd pf 0 0) 2 0, upd tf 1 0, f, to, re, kf)).2.2.2.1), aI cI h3 60 ((pl se ch 60 (upd (upd pf 0 0) 2 0, upd tf 1 0, f, to, re, kf)).2.2.2.2.1), oK t1 ((pl se ch 60 (upd (upd pf 0 0) 2 0, upd tf 1 0, f, to, re, kf)).2.2.2.2.2)] = w'
set_option maxHeartbeats 4000000 in
set_option maxRecDepth 100000 in
theorem ct_X2_perform (l : Launch) (D : va_G) (cI cC cL : ClassId) (z1 y1 h t1 y2 h1 h2 h3 : Nat) (pf tf ch f se to re kf : Nat → Int32) (hch : ∀ j : Nat, ∃ q : Nat, q < 128 ∧ ch j = nI q) : ag_MV l yX2_perform cX2_perform 6 6 132 D cI cC cL [.ref z1, .ref y1, .ref h, .ref t1] [oP z1 pf, oT y1 y2 tf, aC cC y2 60 ch, oL h h1 h2 h3 f, aI cI h1 3 se, aI cI h2 7 to, aI cI h3 60 re, oK t1 kf] (po_X2_perform cI cC cL z1 y1 h t1 y2 h1 h2 h3 pf tf ch f se to re kf hch) := by
  refine ag_MV.of (plainFor_of_name (by decide)) (Nat.le_of_ble_eq_true rfl) ?_
  intro p e s m below meth c hx hb hr hlocks hml hown hmn hG hK A hN hA H locs hP hD hS ls hl
  have hl : lv_has ls 6 [(0, .ref z1), (1, .ref y1), (2, .ref h), (3, .ref t1)] := hl
  refine lv_aload_n hx hb dX2_perform_0 rfl (lv_at hl 0 rfl) ?_
  refine lv_iconst (v := 0) hx hb dX2_perform_1 (by decide) ?_
  refine ag_putX2 hx hb hG hown hK hP hD hS 0 0 rfl (by decide) k_200 (by decide) rfl rfl (Nat.le_of_ble_eq_true rfl) dX2_perform_2 (fun H locs hP hD hS => ?_)
  have hP : va_P D vwCl [oP z1 (upd pf 0 0), oT y1 y2 tf, aC cC y2 60 ch, oL h h1 h2 h3 f, aI cI h1 3 se, aI cI h2 7 to, aI cI h3 60 re, oK t1 kf] H := hP
  have hD : va_D A [oP z1 (upd pf 0 0), oT y1 y2 tf, aC cC y2 60 ch, oL h h1 h2 h3 f, aI cI h1 3 se, aI cI h2 7 to, aI cI h3 60 re, oK t1 kf] := hD
  refine lv_aload_n hx hb dX2_perform_5 rfl (lv_at hl 0 rfl) ?_
  refine lv_iconst (v := 0) hx hb dX2_perform_6 (by decide) ?_
  refine ag_putX2 hx hb hG hown hK hP hD hS 0 2 rfl (by decide) k_204 (by decide) rfl rfl (Nat.le_of_ble_eq_true rfl) dX2_perform_7 (fun H locs hP hD hS => ?_)
  have hP : va_P D vwCl [oP z1 (upd (upd pf 0 0) 2 0), oT y1 y2 tf, aC cC y2 60 ch, oL h h1 h2 h3 f, aI cI h1 3 se, aI cI h2 7 to, aI cI h3 60 re, oK t1 kf] H := hP
  have hD : va_D A [oP z1 (upd (upd pf 0 0) 2 0), oT y1 y2 tf, aC cC y2 60 ch, oL h h1 h2 h3 f, aI cI h1 3 se, aI cI h2 7 to, aI cI h3 60 re, oK t1 kf] := hD
  refine lv_aload_n hx hb dX2_perform_10 rfl (lv_at hl 1 rfl) ?_
  refine lv_iconst (v := 0) hx hb dX2_perform_11 (by decide) ?_
  refine ag_putX3 hx hb hG hown hK hP hD hS 1 2 rfl (by decide) k_172 (by decide) rfl rfl (Nat.le_of_ble_eq_true rfl) dX2_perform_12 (fun H locs hP hD hS => ?_)
  have hP : va_P D vwCl [oP z1 (upd (upd pf 0 0) 2 0), oT y1 y2 (upd tf 1 0), aC cC y2 60 ch, oL h h1 h2 h3 f, aI cI h1 3 se, aI cI h2 7 to, aI cI h3 60 re, oK t1 kf] H := hP
  have hD : va_D A [oP z1 (upd (upd pf 0 0) 2 0), oT y1 y2 (upd tf 1 0), aC cC y2 60 ch, oL h h1 h2 h3 f, aI cI h1 3 se, aI cI h2 7 to, aI cI h3 60 re, oK t1 kf] := hD
  refine lv_iconst (v := 0) hx hb dX2_perform_15 (by decide) ?_
  refine lv_istore (lv' := [(4, .int 0), (0, .ref z1), (1, .ref y1), (2, .ref h), (3, .ref t1)]) hx hb dX2_perform_16 hl (by decide) rfl (fun ls hl => ?_)
  suffices L18 : ∀ (n : Nat) (i : Nat) (qi xi fi ti ri ki : Nat → Int32), (hi : i + n = 60) → (hR : pl se ch n (qi, xi, fi, ti, ri, ki) = pl se ch 60 (upd (upd pf 0 0) 2 0, upd tf 1 0, f, to, re, kf)) → ∀ (H : Heap) (locs : List Loc) (ls : Array Slot), lv_has ls 6 [(0, .ref z1), (1, .ref y1), (2, .ref h), (3, .ref t1), (4, .int (nI i))] → va_P D vwCl [oP z1 qi, oT y1 y2 xi, aC cC y2 60 ch, oL h h1 h2 h3 fi, aI cI h1 3 se, aI cI h2 7 ti, aI cI h3 60 ri, oK t1 ki] H → va_D A [oP z1 qi, oT y1 y2 xi, aC cC y2 60 ch, oL h h1 h2 h3 fi, aI cI h1 3 se, aI cI h2 7 ti, aI cI h3 60 ri, oK t1 ki] → va_S A s.heap H locs → W p l e (ag_rm 6 132) s m ([.ref z1, .ref y1, .ref h, .ref t1] : List Value).toArray below meth c H locs 0 0 (MQ below (va_Qv (po_X2_perform cI cC cL z1 y1 h t1 y2 h1 h2 h3 pf tf ch f se to re kf hch) (ag_Out D [oP z1 pf, oT y1 y2 tf, aC cC y2 60 ch, oL h h1 h2 h3 f, aI cI h1 3 se, aI cI h2 7 to, aI cI h3 60 re, oK t1 kf]) A) ([.ref z1, .ref y1, .ref h, .ref t1] : List Value).toArray s 0 0 A) (F0 m 18 ls []) from L18 60 0 (upd (upd pf 0 0) 2 0) (upd tf 1 0) f to re kf (by omega) rfl H locs ls (lv_sub hl [1, 2, 3, 4, 0] rfl) hP hD hS
  intro n
  induction n with
  | zero =>
    intro i qi xi fi ti ri ki hi hR H locs ls hl hP hD hS
    refine lv_iload hx hb dX2_perform_18 (lv_at hl 4 rfl) ?_
    refine lv_bipush (v := 60) hx hb dX2_perform_20 (by decide) ?_
    refine lv_icmp_ge (tgt := 114) hx hb dX2_perform_22 (by decide) (fun _ => ?_) (fun h0 => absurd (nI_le (a := 60) (by omega) (by omega)) h0)
    exact ag_vret [z1, y1, y2, h, h1, h2, h3, t1] hx hb hr hlocks hP hS rfl rfl (by show _ = _; rw [← hR]; rfl) dX2_perform_114
  | succ n ih =>
    intro i qi xi fi ti ri ki hi hR H locs ls hl hP hD hS
    refine lv_iload hx hb dX2_perform_18 (lv_at hl 4 rfl) ?_
    refine lv_bipush (v := 60) hx hb dX2_perform_20 (by decide) ?_
    refine lv_icmp_ge (tgt := 114) hx hb dX2_perform_22 (by decide) (fun h0 => absurd h0 (nI_ge (b := 60) (by omega) (by omega))) (fun _ => ?_)
    refine lv_aload_n hx hb dX2_perform_25 rfl (lv_at hl 1 rfl) ?_
    refine ag_getX3 (v := .int (xi 1)) hx hb hG hown hK hP 1 2 rfl (by decide) k_172 rfl dX2_perform_26 ?_
    refine lv_aload_n hx hb dX2_perform_29 rfl (lv_at hl 1 rfl) ?_
    refine ag_getX3 (v := .int (xi 0)) hx hb hG hown hK hP 1 1 rfl (by decide) k_170 rfl dX2_perform_30 ?_
    refine lv_icmp_ge (tgt := 114) hx hb dX2_perform_33 (by decide) (fun c_33 => ?_) (fun c_33 => ?_)
    · exact ag_vret [z1, y1, y2, h, h1, h2, h3, t1] hx hb hr hlocks hP hS rfl rfl (by show _ = _; rw [← hR, pl_a (x := (qi, xi, fi, ti, ri, ki)) c_33]) dX2_perform_114
    · refine lv_aload_n hx hb dX2_perform_36 rfl (lv_at hl 0 rfl) ?_
      refine lv_aload_n hx hb dX2_perform_37 rfl (lv_at hl 1 rfl) ?_
      refine ag_getX3 (v := .int (xi 1)) hx hb hG hown hK hP 1 2 rfl (by decide) k_172 rfl dX2_perform_38 ?_
      refine ag_putX2 hx hb hG hown hK hP hD hS 0 1 rfl (by decide) k_202 (by decide) rfl rfl (Nat.le_of_ble_eq_true rfl) dX2_perform_41 (fun H locs hP hD hS => ?_)
      have hP : va_P D vwCl [oP z1 (upd qi 1 (xi 1)), oT y1 y2 xi, aC cC y2 60 ch, oL h h1 h2 h3 fi, aI cI h1 3 se, aI cI h2 7 ti, aI cI h3 60 ri, oK t1 ki] H := hP
      have hD : va_D A [oP z1 (upd qi 1 (xi 1)), oT y1 y2 xi, aC cC y2 60 ch, oL h h1 h2 h3 fi, aI cI h1 3 se, aI cI h2 7 ti, aI cI h3 60 ri, oK t1 ki] := hD
      refine lv_aload_n hx hb dX2_perform_44 rfl (lv_at hl 1 rfl) ?_
      refine ag_callVi (As := []) (rest := []) hx hb hml hown hG hK hN hA hP hD hS hl (ct_X3_readOrder l D cI cC cL y1 y2 xi ch hch) fX3_readOrder k_496 (ag_cut_1 [oP z1 (upd qi 1 (xi 1))] [oL h h1 h2 h3 fi, aI cI h1 3 se, aI cI h2 7 ti, aI cI h3 60 ri, oK t1 ki] rfl) (q0 := 1) rfl rfl rfl rfl (Nat.le_of_ble_eq_true rfl) ⟨Nat.le_of_ble_eq_true rfl, Nat.le_of_ble_eq_true rfl⟩ ⟨Nat.zero_le _, Nat.zero_le _⟩ dX2_perform_45 (fun r w1 H locs hw hP hD hS => ?_)
      obtain ⟨rfl, hw⟩ := hw
      generalize eg45_1 : sw0_X3_readOrder xi ch = g45_1 at hw
      replace eg45_1 : gv45_1_X2_perform ch xi = g45_1 := (by rw [← eg45_1]; rfl)
      subst hw
      have hP : va_P D vwCl [oP z1 (upd qi 1 (xi 1)), oT y1 y2 g45_1, aC cC y2 60 ch, oL h h1 h2 h3 fi, aI cI h1 3 se, aI cI h2 7 ti, aI cI h3 60 ri, oK t1 ki] H := hP
      have hD : va_D A [oP z1 (upd qi 1 (xi 1)), oT y1 y2 g45_1, aC cC y2 60 ch, oL h h1 h2 h3 fi, aI cI h1 3 se, aI cI h2 7 ti, aI cI h3 60 ri, oK t1 ki] := hD
      refine lv_if_ne (tgt := 70) hx hb dX2_perform_48 (by decide) (fun c_48 => ?_) (fun c_48 => ?_)
      · refine lv_aload_n hx hb dX2_perform_70 rfl (lv_at hl 1 rfl) ?_
        refine lv_aload_n hx hb dX2_perform_71 rfl (lv_at hl 2 rfl) ?_
        refine lv_aload_n hx hb dX2_perform_72 rfl (lv_at hl 3 rfl) ?_
        refine ag_callSi (As := [.ref y1, .ref h, .ref t1]) (rest := []) hx hb hml hown hG hK hN hA hP hD hS hl (ct_X2_obey l D cI cC cL y1 h t1 y2 h1 h2 h3 g45_1 ch fi se ti ri ki) fX2_obey k_516 (ag_cut_1 [oP z1 (upd qi 1 (xi 1))] [] rfl) rfl (Nat.le_of_ble_eq_true rfl) ⟨Nat.le_of_ble_eq_true rfl, Nat.le_of_ble_eq_true rfl⟩ ⟨Nat.zero_le _, Nat.zero_le _⟩ dX2_perform_73 (fun r w1 H locs hw hP hD hS => ?_)
        obtain ⟨rfl, hw⟩ := hw
        generalize eg73_2 : sw2_X2_obey g45_1 fi se ti ri ki = g73_2 at hw
        replace eg73_2 : gv73_2_X2_perform ch se xi fi ti ri ki = g73_2 := (by rw [← eg73_2, ← eg45_1]; rfl)
        generalize eg73_3 : sw4_X2_obey g45_1 fi se ti ri ki = g73_3 at hw
        replace eg73_3 : gv73_3_X2_perform ch se xi fi ti ri ki = g73_3 := (by rw [← eg73_3, ← eg45_1]; rfl)
        generalize eg73_4 : sw5_X2_obey g45_1 fi se ti ri ki = g73_4 at hw
        replace eg73_4 : gv73_4_X2_perform ch se xi fi ti ri ki = g73_4 := (by rw [← eg73_4, ← eg45_1]; rfl)
        generalize eg73_5 : sw6_X2_obey g45_1 fi se ti ri ki = g73_5 at hw
        replace eg73_5 : gv73_5_X2_perform ch se xi fi ti ri ki = g73_5 := (by rw [← eg73_5, ← eg45_1]; rfl)
        subst hw
        have hP : va_P D vwCl [oP z1 (upd qi 1 (xi 1)), oT y1 y2 g45_1, aC cC y2 60 ch, oL h h1 h2 h3 g73_2, aI cI h1 3 se, aI cI h2 7 g73_3, aI cI h3 60 g73_4, oK t1 g73_5] H := hP
        have hD : va_D A [oP z1 (upd qi 1 (xi 1)), oT y1 y2 g45_1, aC cC y2 60 ch, oL h h1 h2 h3 g73_2, aI cI h1 3 se, aI cI h2 7 g73_3, aI cI h3 60 g73_4, oK t1 g73_5] := hD
        refine lv_istore (lv' := [(5, .int (sr_X2_obey g45_1 fi se ti ri ki)), (0, .ref z1), (1, .ref y1), (2, .ref h), (3, .ref t1), (4, .int (nI i))]) hx hb dX2_perform_76 hl (by decide) rfl (fun ls hl => ?_)
        refine lv_iload hx hb dX2_perform_78 (lv_at hl 0 rfl) ?_
        refine ag_callNi (As := [.int (sr_X2_obey g45_1 fi se ti ri ki)]) (rest := []) hx hb hml hown hG hK hN hA hP hD hS hl (ct_X5_isError l D cI cC cL (sr_X2_obey g45_1 fi se ti ri ki)) fX5_isError hN.1.2.2.2.2.2.2.2.2.1 ag_cut_0 rfl (Nat.le_of_ble_eq_true rfl) ⟨Nat.le_of_ble_eq_true rfl, Nat.le_of_ble_eq_true rfl⟩ ⟨Nat.zero_le _, Nat.zero_le _⟩ dX2_perform_80 (fun r w1 H locs hw hP hD hS => ?_)
        obtain ⟨rfl, hw⟩ := hw
        subst hw
        have hP : va_P D vwCl [oP z1 (upd qi 1 (xi 1)), oT y1 y2 g45_1, aC cC y2 60 ch, oL h h1 h2 h3 g73_2, aI cI h1 3 se, aI cI h2 7 g73_3, aI cI h3 60 g73_4, oK t1 g73_5] H := hP
        have hD : va_D A [oP z1 (upd qi 1 (xi 1)), oT y1 y2 g45_1, aC cC y2 60 ch, oL h h1 h2 h3 g73_2, aI cI h1 3 se, aI cI h2 7 g73_3, aI cI h3 60 g73_4, oK t1 g73_5] := hD
        refine lv_if_eq (tgt := 98) hx hb dX2_perform_83 (by decide) (fun c_83 => ?_) (fun c_83 => ?_)
        · refine lv_aload_n hx hb dX2_perform_98 rfl (lv_at hl 1 rfl) ?_
          refine lv_dup hx hb dX2_perform_99 rfl ?_
          refine ag_getX2 (v := .int (qi 0)) hx hb hG hown hK hP 0 0 rfl (by decide) k_200 rfl dX2_perform_100 ?_
          refine lv_iconst (v := 1) hx hb dX2_perform_103 (by decide) ?_
          refine lv_iadd hx hb dX2_perform_104 ?_
          refine ag_topn (v := xv105_6_X2_perform qi) rfl (fun x105_6 ex105_6 => ?_)
          refine ag_putX2 hx hb hG hown hK hP hD hS 0 0 rfl (by decide) k_200 (by decide) rfl rfl (Nat.le_of_ble_eq_true rfl) dX2_perform_105 (fun H locs hP hD hS => ?_)
          have hP : va_P D vwCl [oP z1 (upd (upd qi 1 (xi 1)) 0 x105_6), oT y1 y2 g45_1, aC cC y2 60 ch, oL h h1 h2 h3 g73_2, aI cI h1 3 se, aI cI h2 7 g73_3, aI cI h3 60 g73_4, oK t1 g73_5] H := hP
          have hD : va_D A [oP z1 (upd (upd qi 1 (xi 1)) 0 x105_6), oT y1 y2 g45_1, aC cC y2 60 ch, oL h h1 h2 h3 g73_2, aI cI h1 3 se, aI cI h2 7 g73_3, aI cI h3 60 g73_4, oK t1 g73_5] := hD
          refine lv_iinc (v := nI (i + 1)) (lv' := [(4, .int (nI (i + 1))), (5, .int (sr_X2_obey g45_1 fi se ti ri ki)), (0, .ref z1), (1, .ref y1), (2, .ref h), (3, .ref t1)]) hx hb dX2_perform_108 hl (k := 5) rfl (nI_1 i) (by decide) rfl (fun ls hl => ?_)
          refine lv_goto (tgt := 18) hx hb dX2_perform_111 (by decide) ?_
          revert hP; revert hD; revert hS; revert hl
          subst ex105_6
          subst eg73_5
          subst eg73_4
          subst eg73_3
          subst eg73_2
          subst eg45_1
          intro hl hS hD hP
          exact ih (i + 1) (upd (upd qi 1 (xi 1)) 0 (xv105_6_X2_perform qi)) (gv45_1_X2_perform ch xi) (gv73_2_X2_perform ch se xi fi ti ri ki) (gv73_3_X2_perform ch se xi fi ti ri ki) (gv73_4_X2_perform ch se xi fi ti ri ki) (gv73_5_X2_perform ch se xi fi ti ri ki) (by omega) ((pl_c (x := (qi, xi, fi, ti, ri, ki)) c_33 c_48 c_83).symm.trans hR) H locs ls (lv_sub hl [2, 3, 4, 5, 0] rfl) hP hD hS
        · refine lv_aload_n hx hb dX2_perform_86 rfl (lv_at hl 1 rfl) ?_
          refine lv_iconst (v := 2) hx hb dX2_perform_87 (by decide) ?_
          refine ag_putX2 hx hb hG hown hK hP hD hS 0 2 rfl (by decide) k_204 (by decide) rfl rfl (Nat.le_of_ble_eq_true rfl) dX2_perform_88 (fun H locs hP hD hS => ?_)
          have hP : va_P D vwCl [oP z1 (upd (upd qi 1 (xi 1)) 2 2), oT y1 y2 g45_1, aC cC y2 60 ch, oL h h1 h2 h3 g73_2, aI cI h1 3 se, aI cI h2 7 g73_3, aI cI h3 60 g73_4, oK t1 g73_5] H := hP
          have hD : va_D A [oP z1 (upd (upd qi 1 (xi 1)) 2 2), oT y1 y2 g45_1, aC cC y2 60 ch, oL h h1 h2 h3 g73_2, aI cI h1 3 se, aI cI h2 7 g73_3, aI cI h3 60 g73_4, oK t1 g73_5] := hD
          refine lv_aload_n hx hb dX2_perform_91 rfl (lv_at hl 1 rfl) ?_
          refine lv_iload hx hb dX2_perform_92 (lv_at hl 0 rfl) ?_
          refine ag_topn (v := xv94_7_X2_perform ch se xi fi ti ri ki) (by rw [← eg45_1]; rfl) (fun x94_7 ex94_7 => ?_)
          refine ag_putX2 hx hb hG hown hK hP hD hS 0 3 rfl (by decide) k_206 (by decide) rfl rfl (Nat.le_of_ble_eq_true rfl) dX2_perform_94 (fun H locs hP hD hS => ?_)
          have hP : va_P D vwCl [oP z1 (upd (upd (upd qi 1 (xi 1)) 2 2) 3 x94_7), oT y1 y2 g45_1, aC cC y2 60 ch, oL h h1 h2 h3 g73_2, aI cI h1 3 se, aI cI h2 7 g73_3, aI cI h3 60 g73_4, oK t1 g73_5] H := hP
          have hD : va_D A [oP z1 (upd (upd (upd qi 1 (xi 1)) 2 2) 3 x94_7), oT y1 y2 g45_1, aC cC y2 60 ch, oL h h1 h2 h3 g73_2, aI cI h1 3 se, aI cI h2 7 g73_3, aI cI h3 60 g73_4, oK t1 g73_5] := hD
          revert hP; revert hD; revert hS; revert hl
          subst ex94_7
          subst eg73_5
          subst eg73_4
          subst eg73_3
          subst eg73_2
          subst eg45_1
          intro hl hS hD hP
          exact ag_vret [z1, y1, y2, h, h1, h2, h3, t1] hx hb hr hlocks hP hS rfl rfl (by show _ = _; rw [← hR, pl_d (x := (qi, xi, fi, ti, ri, ki)) c_33 c_48 c_83]; rfl) dX2_perform_97
      · refine lv_aload_n hx hb dX2_perform_51 rfl (lv_at hl 0 rfl) ?_
        refine lv_iconst (v := 1) hx hb dX2_perform_52 (by decide) ?_
        refine ag_putX2 hx hb hG hown hK hP hD hS 0 2 rfl (by decide) k_204 (by decide) rfl rfl (Nat.le_of_ble_eq_true rfl) dX2_perform_53 (fun H locs hP hD hS => ?_)
        have hP : va_P D vwCl [oP z1 (upd (upd qi 1 (xi 1)) 2 1), oT y1 y2 g45_1, aC cC y2 60 ch, oL h h1 h2 h3 fi, aI cI h1 3 se, aI cI h2 7 ti, aI cI h3 60 ri, oK t1 ki] H := hP
        have hD : va_D A [oP z1 (upd (upd qi 1 (xi 1)) 2 1), oT y1 y2 g45_1, aC cC y2 60 ch, oL h h1 h2 h3 fi, aI cI h1 3 se, aI cI h2 7 ti, aI cI h3 60 ri, oK t1 ki] := hD
        refine lv_aload_n hx hb dX2_perform_56 rfl (lv_at hl 0 rfl) ?_
        refine lv_aload_n hx hb dX2_perform_57 rfl (lv_at hl 1 rfl) ?_
        refine ag_getX3 (v := .int (g45_1 1)) hx hb hG hown hK hP 1 2 rfl (by decide) k_172 rfl dX2_perform_58 ?_
        refine lv_aload_n hx hb dX2_perform_61 rfl (lv_at hl 0 rfl) ?_
        refine ag_getX2 (v := .int (xi 1)) hx hb hG hown hK hP 0 1 rfl (by decide) k_202 rfl dX2_perform_62 ?_
        refine lv_isub hx hb dX2_perform_65 ?_
        refine ag_topn (v := xv66_8_X2_perform ch xi) (by rw [← eg45_1]; rfl) (fun x66_8 ex66_8 => ?_)
        refine ag_putX2 hx hb hG hown hK hP hD hS 0 3 rfl (by decide) k_206 (by decide) rfl rfl (Nat.le_of_ble_eq_true rfl) dX2_perform_66 (fun H locs hP hD hS => ?_)
        have hP : va_P D vwCl [oP z1 (upd (upd (upd qi 1 (xi 1)) 2 1) 3 x66_8), oT y1 y2 g45_1, aC cC y2 60 ch, oL h h1 h2 h3 fi, aI cI h1 3 se, aI cI h2 7 ti, aI cI h3 60 ri, oK t1 ki] H := hP
        have hD : va_D A [oP z1 (upd (upd (upd qi 1 (xi 1)) 2 1) 3 x66_8), oT y1 y2 g45_1, aC cC y2 60 ch, oL h h1 h2 h3 fi, aI cI h1 3 se, aI cI h2 7 ti, aI cI h3 60 ri, oK t1 ki] := hD
        revert hP; revert hD; revert hS; revert hl
        subst ex66_8
        subst eg45_1
        intro hl hS hD hP
        exact ag_vret [z1, y1, y2, h, h1, h2, h3, t1] hx hb hr hlocks hP hS rfl rfl (by show _ = _; rw [← hR, pl_b (x := (qi, xi, fi, ti, ri, ki)) c_33 c_48]; rfl) dX2_perform_69
def rox (x : Int32) : Nat := (sr_J9_floorMod_7cf53 x 4).toNatClampNeg
theorem rox_at (x : Int32) : sr_J9_floorMod_7cf53 x 4 = nI (rox x) ∧ rox x < 4 := by
  obtain ⟨k, h1, h2⟩ := fm_in x (d := 4) (by decide) (by decide)
  have e : (4 : Int32) = nI 4 := rfl
  unfold rox
  rw [e, h2, nI_clamp (by omega)]
  exact ⟨rfl, h1⟩
theorem rox_4 (x : Int32) : rox x = 0 ∨ rox x = 1 ∨ rox x = 2 ∨ rox x = 3 := by
  have := (rox_at x).2
  omega
def gS (a b c d : Nat) : Nat → Option Nat := fun j => if j = 0 then some a else if j = 1 then some b else if j = 2 then some c else some d

def sr_X0_rowOf (hf : Nat → Int32) (p1 : Int32) : Int32 := sr_J9_floorMod_7cf53 ((hf 0) + p1) 4
abbrev po_X0_rowOf (cI cC cL : ClassId) (x1 x2 : Nat) (hf : Nat → Int32) (p1 : Int32) : Int32 → va_W → Prop := fun r w' => sr_X0_rowOf hf p1 = r ∧ [oH x1 x2 hf] = w'
set_option maxHeartbeats 4000000 in
set_option maxRecDepth 100000 in
theorem ct_X0_rowOf (l : Launch) (D : va_G) (cI cC cL : ClassId) (x1 x2 : Nat) (hf : Nat → Int32) (p1 : Int32) : ag_MI l yX0_rowOf cX0_rowOf 2 .int 1 22 D cI cC cL [.ref x1, .int p1] [oH x1 x2 hf] (po_X0_rowOf cI cC cL x1 x2 hf p1) := by
  refine ag_MI.of (plainFor_of_name (by decide)) (Nat.le_of_ble_eq_true rfl) ?_
  intro p e s m below meth c hx hb hr hlocks hml hown hmn hG hK A hN hA H locs hP hD hS ls hl
  have hl : lv_has ls 2 [(0, .ref x1), (1, .int p1)] := hl
  refine lv_aload_n hx hb dX0_rowOf_0 rfl (lv_at hl 0 rfl) ?_
  refine ag_getX0 (v := .int (hf 0)) hx hb hG hown hK hP 0 1 rfl (by decide) k_152 rfl dX0_rowOf_1 ?_
  refine lv_iload_n hx hb dX0_rowOf_4 rfl (lv_at hl 1 rfl) ?_
  refine lv_iadd hx hb dX0_rowOf_5 ?_
  refine lv_iconst (v := 4) hx hb dX0_rowOf_6 (by decide) ?_
  refine ag_callSi (As := [.int ((hf 0) + p1), .int 4]) (rest := []) hx hb hml hown hG hK hN hA hP hD hS hl (ct_J9_floorMod_7cf53 l D cI cC cL ((hf 0) + p1) 4 (by decide)) fJ9_floorMod_7cf53 k_268 ag_cut_0 rfl (Nat.le_of_ble_eq_true rfl) ⟨Nat.le_of_ble_eq_true rfl, Nat.le_of_ble_eq_true rfl⟩ ⟨Nat.zero_le _, Nat.zero_le _⟩ dX0_rowOf_7 (fun r w1 H locs hw hP hD hS => ?_)
  obtain ⟨rfl, hw⟩ := hw
  subst hw
  have hP : va_P D vwCl [oH x1 x2 hf] H := hP
  have hD : va_D A [oH x1 x2 hf] := hD
  exact ag_iret [x1] hx hb hr rfl hlocks hP hS rfl rfl ⟨rfl, rfl⟩ dX0_rowOf_10
theorem row_at (hf : Nat → Int32) (x : Int32) : sr_X0_rowOf hf x = nI (rox (hf 0 + x)) := (rox_at (hf 0 + x)).1
section AGQ
variable {p : Program} {l : Launch} {e : Env} {R : Room} {s : State} {m : MethodId} {args : Array Value} {below : List Frame} {meth : Method} {c : Code} {H : Heap} {locs : List Loc} {cells slots : Nat} {Q : State → Prop}
variable {cc : ByteArray} {pc : Nat} {ls : Array Slot} {rest : List Value} {D : va_G} {A : Nat → Prop} {a : Nat} {cI cC cL : ClassId} {w : va_W} {H0 : Heap}
theorem ag_qld (hx : p.tables.exec = Jvm.exec) (hb : c.code = cc) (hK : va_K D vwCl (ag_T cI cC cL) s) (hP : va_P D vwCl w H) {k v : Nat} {f : Nat → Option Nat} {i : Int32} (q0 : Nat) (ha : w[q0]? = some (a, .inl (cL, 4, .inr (.inr (.inr (.inr f)))))) (hi : i = nI k) (hk : k < 4) (hv : f k = some v) (hdg : decode cc pc = .ok (.aaload, 1))
    (kk : W p l e R s m args below meth c H locs cells slots Q (F0 m (pc + 1) ls (.ref v :: rest))) : W p l e R s m args below meth c H locs cells slots Q (F0 m pc ls (.int i :: .ref a :: rest)) := by
  subst hi
  have hc : (nI k).toNatClampNeg = k := nI_clamp (by omega)
  refine va_aldq hx hb hK hP q0 2 ha rfl (vp_in_nI hk (by decide)) hdg ?_
  rw [hc, hv]
  exact kk
end AGQ

def hk_k (hf : Nat → Int32) : Nat → Int32 := if 4 ≤ hf 1 then upd hf 0 (sr_X0_rowOf hf 1) else upd hf 1 (hf 1 + 1)
def xv44_1_X0_keep (hf : Nat → Int32) : Int32 := sr_X0_rowOf hf 1
def xv32_2_X0_keep (hf : Nat → Int32) : Int32 := (hf 1) + 1
def xv44_3_X0_keep (hf : Nat → Int32) : Int32 := sr_X0_rowOf hf 1
def xv32_4_X0_keep (hf : Nat → Int32) : Int32 := (hf 1) + 1
def xv44_5_X0_keep (hf : Nat → Int32) : Int32 := sr_X0_rowOf hf 1
def xv32_6_X0_keep (hf : Nat → Int32) : Int32 := (hf 1) + 1
def xv44_7_X0_keep (hf : Nat → Int32) : Int32 := sr_X0_rowOf hf 1
def xv32_8_X0_keep (hf : Nat → Int32) : Int32 := (hf 1) + 1
abbrev po_X0_keep (cI cC cL : ClassId) (x1 o x2 s0 s01 s02 s03 s1 s11 s12 s13 s2 s21 s22 s23 s3 s31 s32 s33 o1 o2 o3 : Nat) (hf of ose oto ore : Nat → Int32) (sf : Nat → Nat → Int32) (sse : Nat → Nat → Int32) (sto : Nat → Nat → Int32) (sre : Nat → Nat → Int32) : va_W → Prop := fun w' => [oH x1 x2 (hk_k hf), aL cL x2 (gS s0 s1 s2 s3), oL s0 s01 s02 s03 (va_up sf (rox (hf 0 + hf 1)) of 0), aI cI s01 3 (va_up sse (rox (hf 0 + hf 1)) ose 0), aI cI s02 7 (va_up sto (rox (hf 0 + hf 1)) oto 0), aI cI s03 60 (va_up sre (rox (hf 0 + hf 1)) ore 0), oL s1 s11 s12 s13 (va_up sf (rox (hf 0 + hf 1)) of 1), aI cI s11 3 (va_up sse (rox (hf 0 + hf 1)) ose 1), aI cI s12 7 (va_up sto (rox (hf 0 + hf 1)) oto 1), aI cI s13 60 (va_up sre (rox (hf 0 + hf 1)) ore 1), oL s2 s21 s22 s23 (va_up sf (rox (hf 0 + hf 1)) of 2), aI cI s21 3 (va_up sse (rox (hf 0 + hf 1)) ose 2), aI cI s22 7 (va_up sto (rox (hf 0 + hf 1)) oto 2), aI cI s23 60 (va_up sre (rox (hf 0 + hf 1)) ore 2), oL s3 s31 s32 s33 (va_up sf (rox (hf 0 + hf 1)) of 3), aI cI s31 3 (va_up sse (rox (hf 0 + hf 1)) ose 3), aI cI s32 7 (va_up sto (rox (hf 0 + hf 1)) oto 3), aI cI s33 60 (va_up sre (rox (hf 0 + hf 1)) ore 3), oL o o1 o2 o3 of, aI cI o1 3 ose, aI cI o2 7 oto, aI cI o3 60 ore] = w'
set_option maxHeartbeats 4000000 in
set_option maxRecDepth 100000 in
theorem ct_X0_keep (l : Launch) (D : va_G) (cI cC cL : ClassId) (x1 o x2 s0 s01 s02 s03 s1 s11 s12 s13 s2 s21 s22 s23 s3 s31 s32 s33 o1 o2 o3 : Nat) (hf of ose oto ore : Nat → Int32) (sf : Nat → Nat → Int32) (sse : Nat → Nat → Int32) (sto : Nat → Nat → Int32) (sre : Nat → Nat → Int32) : ag_MV l yX0_keep cX0_keep 2 2 51 D cI cC cL [.ref x1, .ref o] [oH x1 x2 hf, aL cL x2 (gS s0 s1 s2 s3), oL s0 s01 s02 s03 (sf 0), aI cI s01 3 (sse 0), aI cI s02 7 (sto 0), aI cI s03 60 (sre 0), oL s1 s11 s12 s13 (sf 1), aI cI s11 3 (sse 1), aI cI s12 7 (sto 1), aI cI s13 60 (sre 1), oL s2 s21 s22 s23 (sf 2), aI cI s21 3 (sse 2), aI cI s22 7 (sto 2), aI cI s23 60 (sre 2), oL s3 s31 s32 s33 (sf 3), aI cI s31 3 (sse 3), aI cI s32 7 (sto 3), aI cI s33 60 (sre 3), oL o o1 o2 o3 of, aI cI o1 3 ose, aI cI o2 7 oto, aI cI o3 60 ore] (po_X0_keep cI cC cL x1 o x2 s0 s01 s02 s03 s1 s11 s12 s13 s2 s21 s22 s23 s3 s31 s32 s33 o1 o2 o3 hf of ose oto ore sf sse sto sre) := by
  refine ag_MV.of (plainFor_of_name (by decide)) (Nat.le_of_ble_eq_true rfl) ?_
  intro p e s m below meth c hx hb hr hlocks hml hown hmn hG hK A hN hA H locs hP hD hS ls hl
  have hl : lv_has ls 2 [(0, .ref x1), (1, .ref o)] := hl
  refine lv_aload_n hx hb dX0_keep_0 rfl (lv_at hl 0 rfl) ?_
  refine ag_getX0 (v := .ref x2) hx hb hG hown hK hP 0 0 rfl (by decide) k_151 rfl dX0_keep_1 ?_
  refine lv_aload_n hx hb dX0_keep_4 rfl (lv_at hl 0 rfl) ?_
  refine lv_aload_n hx hb dX0_keep_5 rfl (lv_at hl 0 rfl) ?_
  refine ag_getX0 (v := .int (hf 1)) hx hb hG hown hK hP 0 2 rfl (by decide) k_153 rfl dX0_keep_6 ?_
  refine ag_callVi (As := [.int (hf 1)]) (rest := [.ref x2]) hx hb hml hown hG hK hN hA hP hD hS hl (ct_X0_rowOf l D cI cC cL x1 x2 hf (hf 1)) fX0_rowOf k_264 (ag_cut_1 [] [aL cL x2 (gS s0 s1 s2 s3), oL s0 s01 s02 s03 (sf 0), aI cI s01 3 (sse 0), aI cI s02 7 (sto 0), aI cI s03 60 (sre 0), oL s1 s11 s12 s13 (sf 1), aI cI s11 3 (sse 1), aI cI s12 7 (sto 1), aI cI s13 60 (sre 1), oL s2 s21 s22 s23 (sf 2), aI cI s21 3 (sse 2), aI cI s22 7 (sto 2), aI cI s23 60 (sre 2), oL s3 s31 s32 s33 (sf 3), aI cI s31 3 (sse 3), aI cI s32 7 (sto 3), aI cI s33 60 (sre 3), oL o o1 o2 o3 of, aI cI o1 3 ose, aI cI o2 7 oto, aI cI o3 60 ore] rfl) (q0 := 0) rfl rfl rfl rfl (Nat.le_of_ble_eq_true rfl) ⟨Nat.le_of_ble_eq_true rfl, Nat.le_of_ble_eq_true rfl⟩ ⟨Nat.zero_le _, Nat.zero_le _⟩ dX0_keep_9 (fun r w1 H locs hw hP hD hS => ?_)
  obtain ⟨rfl, hw⟩ := hw
  subst hw
  have hP : va_P D vwCl [oH x1 x2 hf, aL cL x2 (gS s0 s1 s2 s3), oL s0 s01 s02 s03 (sf 0), aI cI s01 3 (sse 0), aI cI s02 7 (sto 0), aI cI s03 60 (sre 0), oL s1 s11 s12 s13 (sf 1), aI cI s11 3 (sse 1), aI cI s12 7 (sto 1), aI cI s13 60 (sre 1), oL s2 s21 s22 s23 (sf 2), aI cI s21 3 (sse 2), aI cI s22 7 (sto 2), aI cI s23 60 (sre 2), oL s3 s31 s32 s33 (sf 3), aI cI s31 3 (sse 3), aI cI s32 7 (sto 3), aI cI s33 60 (sre 3), oL o o1 o2 o3 of, aI cI o1 3 ose, aI cI o2 7 oto, aI cI o3 60 ore] H := hP
  have hD : va_D A [oH x1 x2 hf, aL cL x2 (gS s0 s1 s2 s3), oL s0 s01 s02 s03 (sf 0), aI cI s01 3 (sse 0), aI cI s02 7 (sto 0), aI cI s03 60 (sre 0), oL s1 s11 s12 s13 (sf 1), aI cI s11 3 (sse 1), aI cI s12 7 (sto 1), aI cI s13 60 (sre 1), oL s2 s21 s22 s23 (sf 2), aI cI s21 3 (sse 2), aI cI s22 7 (sto 2), aI cI s23 60 (sre 2), oL s3 s31 s32 s33 (sf 3), aI cI s31 3 (sse 3), aI cI s32 7 (sto 3), aI cI s33 60 (sre 3), oL o o1 o2 o3 of, aI cI o1 3 ose, aI cI o2 7 oto, aI cI o3 60 ore] := hD
  rcases rox_4 (hf 0 + hf 1) with hk | hk | hk | hk
  · refine ag_qld (k := 0) (v := s0) hx hb hK hP 1 rfl ((row_at hf (hf 1)).trans (by rw [hk])) (by decide) rfl dX0_keep_12 ?_
    refine lv_aload_n hx hb dX0_keep_13 rfl (lv_at hl 1 rfl) ?_
    refine ag_callVv (As := [.ref o]) (rest := []) hx hb hml hown hG hK hN hA hP hD hS hl (ct_X1_copyFrom l D cI cC cL s0 o s01 s02 s03 o1 o2 o3 (sf 0) (sse 0) (sto 0) (sre 0) of ose oto ore) fX1_copyFrom k_271 (ag_cut_2 4 [oH x1 x2 hf, aL cL x2 (gS s0 s1 s2 s3)] [oL s0 s01 s02 s03 (sf 0), aI cI s01 3 (sse 0), aI cI s02 7 (sto 0), aI cI s03 60 (sre 0)] [oL s1 s11 s12 s13 (sf 1), aI cI s11 3 (sse 1), aI cI s12 7 (sto 1), aI cI s13 60 (sre 1), oL s2 s21 s22 s23 (sf 2), aI cI s21 3 (sse 2), aI cI s22 7 (sto 2), aI cI s23 60 (sre 2), oL s3 s31 s32 s33 (sf 3), aI cI s31 3 (sse 3), aI cI s32 7 (sto 3), aI cI s33 60 (sre 3)] [oL o o1 o2 o3 of, aI cI o1 3 ose, aI cI o2 7 oto, aI cI o3 60 ore] [] rfl rfl rfl) (q0 := 2) rfl rfl rfl rfl (Nat.le_of_ble_eq_true rfl) ⟨Nat.le_of_ble_eq_true rfl, Nat.le_of_ble_eq_true rfl⟩ ⟨Nat.zero_le _, Nat.zero_le _⟩ dX0_keep_14 (fun w1 H locs hw hP hD hS => ?_)
    have hw : _ = w1 := hw
    subst hw
    have hP : va_P D vwCl [oH x1 x2 hf, aL cL x2 (gS s0 s1 s2 s3), oL s0 s01 s02 s03 of, aI cI s01 3 ose, aI cI s02 7 oto, aI cI s03 60 ore, oL s1 s11 s12 s13 (sf 1), aI cI s11 3 (sse 1), aI cI s12 7 (sto 1), aI cI s13 60 (sre 1), oL s2 s21 s22 s23 (sf 2), aI cI s21 3 (sse 2), aI cI s22 7 (sto 2), aI cI s23 60 (sre 2), oL s3 s31 s32 s33 (sf 3), aI cI s31 3 (sse 3), aI cI s32 7 (sto 3), aI cI s33 60 (sre 3), oL o o1 o2 o3 of, aI cI o1 3 ose, aI cI o2 7 oto, aI cI o3 60 ore] H := hP
    have hD : va_D A [oH x1 x2 hf, aL cL x2 (gS s0 s1 s2 s3), oL s0 s01 s02 s03 of, aI cI s01 3 ose, aI cI s02 7 oto, aI cI s03 60 ore, oL s1 s11 s12 s13 (sf 1), aI cI s11 3 (sse 1), aI cI s12 7 (sto 1), aI cI s13 60 (sre 1), oL s2 s21 s22 s23 (sf 2), aI cI s21 3 (sse 2), aI cI s22 7 (sto 2), aI cI s23 60 (sre 2), oL s3 s31 s32 s33 (sf 3), aI cI s31 3 (sse 3), aI cI s32 7 (sto 3), aI cI s33 60 (sre 3), oL o o1 o2 o3 of, aI cI o1 3 ose, aI cI o2 7 oto, aI cI o3 60 ore] := hD
    refine lv_aload_n hx hb dX0_keep_17 rfl (lv_at hl 0 rfl) ?_
    refine ag_getX0 (v := .int (hf 1)) hx hb hG hown hK hP 0 2 rfl (by decide) k_153 rfl dX0_keep_18 ?_
    refine lv_iconst (v := 4) hx hb dX0_keep_21 (by decide) ?_
    refine lv_icmp_ge (tgt := 38) hx hb dX0_keep_22 (by decide) (fun c_22 => ?_) (fun c_22 => ?_)
    · refine lv_aload_n hx hb dX0_keep_38 rfl (lv_at hl 0 rfl) ?_
      refine lv_aload_n hx hb dX0_keep_39 rfl (lv_at hl 0 rfl) ?_
      refine lv_iconst (v := 1) hx hb dX0_keep_40 (by decide) ?_
      refine ag_callVi (As := [.int 1]) (rest := [.ref x1]) hx hb hml hown hG hK hN hA hP hD hS hl (ct_X0_rowOf l D cI cC cL x1 x2 hf 1) fX0_rowOf k_264 (ag_cut_1 [] [aL cL x2 (gS s0 s1 s2 s3), oL s0 s01 s02 s03 of, aI cI s01 3 ose, aI cI s02 7 oto, aI cI s03 60 ore, oL s1 s11 s12 s13 (sf 1), aI cI s11 3 (sse 1), aI cI s12 7 (sto 1), aI cI s13 60 (sre 1), oL s2 s21 s22 s23 (sf 2), aI cI s21 3 (sse 2), aI cI s22 7 (sto 2), aI cI s23 60 (sre 2), oL s3 s31 s32 s33 (sf 3), aI cI s31 3 (sse 3), aI cI s32 7 (sto 3), aI cI s33 60 (sre 3), oL o o1 o2 o3 of, aI cI o1 3 ose, aI cI o2 7 oto, aI cI o3 60 ore] rfl) (q0 := 0) rfl rfl rfl rfl (Nat.le_of_ble_eq_true rfl) ⟨Nat.le_of_ble_eq_true rfl, Nat.le_of_ble_eq_true rfl⟩ ⟨Nat.zero_le _, Nat.zero_le _⟩ dX0_keep_41 (fun r w1 H locs hw hP hD hS => ?_)
      obtain ⟨rfl, hw⟩ := hw
      subst hw
      have hP : va_P D vwCl [oH x1 x2 hf, aL cL x2 (gS s0 s1 s2 s3), oL s0 s01 s02 s03 of, aI cI s01 3 ose, aI cI s02 7 oto, aI cI s03 60 ore, oL s1 s11 s12 s13 (sf 1), aI cI s11 3 (sse 1), aI cI s12 7 (sto 1), aI cI s13 60 (sre 1), oL s2 s21 s22 s23 (sf 2), aI cI s21 3 (sse 2), aI cI s22 7 (sto 2), aI cI s23 60 (sre 2), oL s3 s31 s32 s33 (sf 3), aI cI s31 3 (sse 3), aI cI s32 7 (sto 3), aI cI s33 60 (sre 3), oL o o1 o2 o3 of, aI cI o1 3 ose, aI cI o2 7 oto, aI cI o3 60 ore] H := hP
      have hD : va_D A [oH x1 x2 hf, aL cL x2 (gS s0 s1 s2 s3), oL s0 s01 s02 s03 of, aI cI s01 3 ose, aI cI s02 7 oto, aI cI s03 60 ore, oL s1 s11 s12 s13 (sf 1), aI cI s11 3 (sse 1), aI cI s12 7 (sto 1), aI cI s13 60 (sre 1), oL s2 s21 s22 s23 (sf 2), aI cI s21 3 (sse 2), aI cI s22 7 (sto 2), aI cI s23 60 (sre 2), oL s3 s31 s32 s33 (sf 3), aI cI s31 3 (sse 3), aI cI s32 7 (sto 3), aI cI s33 60 (sre 3), oL o o1 o2 o3 of, aI cI o1 3 ose, aI cI o2 7 oto, aI cI o3 60 ore] := hD
      refine ag_topn (v := xv44_1_X0_keep hf) rfl (fun x44_1 ex44_1 => ?_)
      refine ag_putX0 hx hb hG hown hK hP hD hS 0 1 rfl (by decide) k_152 (by decide) rfl rfl (Nat.le_of_ble_eq_true rfl) dX0_keep_44 (fun H locs hP hD hS => ?_)
      have hP : va_P D vwCl [oH x1 x2 (upd hf 0 x44_1), aL cL x2 (gS s0 s1 s2 s3), oL s0 s01 s02 s03 of, aI cI s01 3 ose, aI cI s02 7 oto, aI cI s03 60 ore, oL s1 s11 s12 s13 (sf 1), aI cI s11 3 (sse 1), aI cI s12 7 (sto 1), aI cI s13 60 (sre 1), oL s2 s21 s22 s23 (sf 2), aI cI s21 3 (sse 2), aI cI s22 7 (sto 2), aI cI s23 60 (sre 2), oL s3 s31 s32 s33 (sf 3), aI cI s31 3 (sse 3), aI cI s32 7 (sto 3), aI cI s33 60 (sre 3), oL o o1 o2 o3 of, aI cI o1 3 ose, aI cI o2 7 oto, aI cI o3 60 ore] H := hP
      have hD : va_D A [oH x1 x2 (upd hf 0 x44_1), aL cL x2 (gS s0 s1 s2 s3), oL s0 s01 s02 s03 of, aI cI s01 3 ose, aI cI s02 7 oto, aI cI s03 60 ore, oL s1 s11 s12 s13 (sf 1), aI cI s11 3 (sse 1), aI cI s12 7 (sto 1), aI cI s13 60 (sre 1), oL s2 s21 s22 s23 (sf 2), aI cI s21 3 (sse 2), aI cI s22 7 (sto 2), aI cI s23 60 (sre 2), oL s3 s31 s32 s33 (sf 3), aI cI s31 3 (sse 3), aI cI s32 7 (sto 3), aI cI s33 60 (sre 3), oL o o1 o2 o3 of, aI cI o1 3 ose, aI cI o2 7 oto, aI cI o3 60 ore] := hD
      revert hP; revert hD; revert hS; revert hl
      subst ex44_1
      intro hl hS hD hP
      exact ag_vret [x1, x2, s0, s01, s02, s03, s1, s11, s12, s13, s2, s21, s22, s23, s3, s31, s32, s33, o, o1, o2, o3] hx hb hr hlocks hP hS rfl rfl (by show _ = _; unfold hk_k; rw [show rox (hf 0 + hf 1) = 0 from hk, if_pos c_22]; rfl) dX0_keep_47
    · refine lv_aload_n hx hb dX0_keep_25 rfl (lv_at hl 0 rfl) ?_
      refine lv_dup hx hb dX0_keep_26 rfl ?_
      refine ag_getX0 (v := .int (hf 1)) hx hb hG hown hK hP 0 2 rfl (by decide) k_153 rfl dX0_keep_27 ?_
      refine lv_iconst (v := 1) hx hb dX0_keep_30 (by decide) ?_
      refine lv_iadd hx hb dX0_keep_31 ?_
      refine ag_topn (v := xv32_2_X0_keep hf) rfl (fun x32_2 ex32_2 => ?_)
      refine ag_putX0 hx hb hG hown hK hP hD hS 0 2 rfl (by decide) k_153 (by decide) rfl rfl (Nat.le_of_ble_eq_true rfl) dX0_keep_32 (fun H locs hP hD hS => ?_)
      have hP : va_P D vwCl [oH x1 x2 (upd hf 1 x32_2), aL cL x2 (gS s0 s1 s2 s3), oL s0 s01 s02 s03 of, aI cI s01 3 ose, aI cI s02 7 oto, aI cI s03 60 ore, oL s1 s11 s12 s13 (sf 1), aI cI s11 3 (sse 1), aI cI s12 7 (sto 1), aI cI s13 60 (sre 1), oL s2 s21 s22 s23 (sf 2), aI cI s21 3 (sse 2), aI cI s22 7 (sto 2), aI cI s23 60 (sre 2), oL s3 s31 s32 s33 (sf 3), aI cI s31 3 (sse 3), aI cI s32 7 (sto 3), aI cI s33 60 (sre 3), oL o o1 o2 o3 of, aI cI o1 3 ose, aI cI o2 7 oto, aI cI o3 60 ore] H := hP
      have hD : va_D A [oH x1 x2 (upd hf 1 x32_2), aL cL x2 (gS s0 s1 s2 s3), oL s0 s01 s02 s03 of, aI cI s01 3 ose, aI cI s02 7 oto, aI cI s03 60 ore, oL s1 s11 s12 s13 (sf 1), aI cI s11 3 (sse 1), aI cI s12 7 (sto 1), aI cI s13 60 (sre 1), oL s2 s21 s22 s23 (sf 2), aI cI s21 3 (sse 2), aI cI s22 7 (sto 2), aI cI s23 60 (sre 2), oL s3 s31 s32 s33 (sf 3), aI cI s31 3 (sse 3), aI cI s32 7 (sto 3), aI cI s33 60 (sre 3), oL o o1 o2 o3 of, aI cI o1 3 ose, aI cI o2 7 oto, aI cI o3 60 ore] := hD
      refine lv_goto (tgt := 47) hx hb dX0_keep_35 (by decide) ?_
      revert hP; revert hD; revert hS; revert hl
      subst ex32_2
      intro hl hS hD hP
      exact ag_vret [x1, x2, s0, s01, s02, s03, s1, s11, s12, s13, s2, s21, s22, s23, s3, s31, s32, s33, o, o1, o2, o3] hx hb hr hlocks hP hS rfl rfl (by show _ = _; unfold hk_k; rw [show rox (hf 0 + hf 1) = 0 from hk, if_neg c_22]; rfl) dX0_keep_47
  · refine ag_qld (k := 1) (v := s1) hx hb hK hP 1 rfl ((row_at hf (hf 1)).trans (by rw [hk])) (by decide) rfl dX0_keep_12 ?_
    refine lv_aload_n hx hb dX0_keep_13 rfl (lv_at hl 1 rfl) ?_
    refine ag_callVv (As := [.ref o]) (rest := []) hx hb hml hown hG hK hN hA hP hD hS hl (ct_X1_copyFrom l D cI cC cL s1 o s11 s12 s13 o1 o2 o3 (sf 1) (sse 1) (sto 1) (sre 1) of ose oto ore) fX1_copyFrom k_271 (ag_cut_2 4 [oH x1 x2 hf, aL cL x2 (gS s0 s1 s2 s3), oL s0 s01 s02 s03 (sf 0), aI cI s01 3 (sse 0), aI cI s02 7 (sto 0), aI cI s03 60 (sre 0)] [oL s1 s11 s12 s13 (sf 1), aI cI s11 3 (sse 1), aI cI s12 7 (sto 1), aI cI s13 60 (sre 1)] [oL s2 s21 s22 s23 (sf 2), aI cI s21 3 (sse 2), aI cI s22 7 (sto 2), aI cI s23 60 (sre 2), oL s3 s31 s32 s33 (sf 3), aI cI s31 3 (sse 3), aI cI s32 7 (sto 3), aI cI s33 60 (sre 3)] [oL o o1 o2 o3 of, aI cI o1 3 ose, aI cI o2 7 oto, aI cI o3 60 ore] [] rfl rfl rfl) (q0 := 6) rfl rfl rfl rfl (Nat.le_of_ble_eq_true rfl) ⟨Nat.le_of_ble_eq_true rfl, Nat.le_of_ble_eq_true rfl⟩ ⟨Nat.zero_le _, Nat.zero_le _⟩ dX0_keep_14 (fun w1 H locs hw hP hD hS => ?_)
    have hw : _ = w1 := hw
    subst hw
    have hP : va_P D vwCl [oH x1 x2 hf, aL cL x2 (gS s0 s1 s2 s3), oL s0 s01 s02 s03 (sf 0), aI cI s01 3 (sse 0), aI cI s02 7 (sto 0), aI cI s03 60 (sre 0), oL s1 s11 s12 s13 of, aI cI s11 3 ose, aI cI s12 7 oto, aI cI s13 60 ore, oL s2 s21 s22 s23 (sf 2), aI cI s21 3 (sse 2), aI cI s22 7 (sto 2), aI cI s23 60 (sre 2), oL s3 s31 s32 s33 (sf 3), aI cI s31 3 (sse 3), aI cI s32 7 (sto 3), aI cI s33 60 (sre 3), oL o o1 o2 o3 of, aI cI o1 3 ose, aI cI o2 7 oto, aI cI o3 60 ore] H := hP
    have hD : va_D A [oH x1 x2 hf, aL cL x2 (gS s0 s1 s2 s3), oL s0 s01 s02 s03 (sf 0), aI cI s01 3 (sse 0), aI cI s02 7 (sto 0), aI cI s03 60 (sre 0), oL s1 s11 s12 s13 of, aI cI s11 3 ose, aI cI s12 7 oto, aI cI s13 60 ore, oL s2 s21 s22 s23 (sf 2), aI cI s21 3 (sse 2), aI cI s22 7 (sto 2), aI cI s23 60 (sre 2), oL s3 s31 s32 s33 (sf 3), aI cI s31 3 (sse 3), aI cI s32 7 (sto 3), aI cI s33 60 (sre 3), oL o o1 o2 o3 of, aI cI o1 3 ose, aI cI o2 7 oto, aI cI o3 60 ore] := hD
    refine lv_aload_n hx hb dX0_keep_17 rfl (lv_at hl 0 rfl) ?_
    refine ag_getX0 (v := .int (hf 1)) hx hb hG hown hK hP 0 2 rfl (by decide) k_153 rfl dX0_keep_18 ?_
    refine lv_iconst (v := 4) hx hb dX0_keep_21 (by decide) ?_
    refine lv_icmp_ge (tgt := 38) hx hb dX0_keep_22 (by decide) (fun c_22 => ?_) (fun c_22 => ?_)
    · refine lv_aload_n hx hb dX0_keep_38 rfl (lv_at hl 0 rfl) ?_
      refine lv_aload_n hx hb dX0_keep_39 rfl (lv_at hl 0 rfl) ?_
      refine lv_iconst (v := 1) hx hb dX0_keep_40 (by decide) ?_
      refine ag_callVi (As := [.int 1]) (rest := [.ref x1]) hx hb hml hown hG hK hN hA hP hD hS hl (ct_X0_rowOf l D cI cC cL x1 x2 hf 1) fX0_rowOf k_264 (ag_cut_1 [] [aL cL x2 (gS s0 s1 s2 s3), oL s0 s01 s02 s03 (sf 0), aI cI s01 3 (sse 0), aI cI s02 7 (sto 0), aI cI s03 60 (sre 0), oL s1 s11 s12 s13 of, aI cI s11 3 ose, aI cI s12 7 oto, aI cI s13 60 ore, oL s2 s21 s22 s23 (sf 2), aI cI s21 3 (sse 2), aI cI s22 7 (sto 2), aI cI s23 60 (sre 2), oL s3 s31 s32 s33 (sf 3), aI cI s31 3 (sse 3), aI cI s32 7 (sto 3), aI cI s33 60 (sre 3), oL o o1 o2 o3 of, aI cI o1 3 ose, aI cI o2 7 oto, aI cI o3 60 ore] rfl) (q0 := 0) rfl rfl rfl rfl (Nat.le_of_ble_eq_true rfl) ⟨Nat.le_of_ble_eq_true rfl, Nat.le_of_ble_eq_true rfl⟩ ⟨Nat.zero_le _, Nat.zero_le _⟩ dX0_keep_41 (fun r w1 H locs hw hP hD hS => ?_)
      obtain ⟨rfl, hw⟩ := hw
      subst hw
      have hP : va_P D vwCl [oH x1 x2 hf, aL cL x2 (gS s0 s1 s2 s3), oL s0 s01 s02 s03 (sf 0), aI cI s01 3 (sse 0), aI cI s02 7 (sto 0), aI cI s03 60 (sre 0), oL s1 s11 s12 s13 of, aI cI s11 3 ose, aI cI s12 7 oto, aI cI s13 60 ore, oL s2 s21 s22 s23 (sf 2), aI cI s21 3 (sse 2), aI cI s22 7 (sto 2), aI cI s23 60 (sre 2), oL s3 s31 s32 s33 (sf 3), aI cI s31 3 (sse 3), aI cI s32 7 (sto 3), aI cI s33 60 (sre 3), oL o o1 o2 o3 of, aI cI o1 3 ose, aI cI o2 7 oto, aI cI o3 60 ore] H := hP
      have hD : va_D A [oH x1 x2 hf, aL cL x2 (gS s0 s1 s2 s3), oL s0 s01 s02 s03 (sf 0), aI cI s01 3 (sse 0), aI cI s02 7 (sto 0), aI cI s03 60 (sre 0), oL s1 s11 s12 s13 of, aI cI s11 3 ose, aI cI s12 7 oto, aI cI s13 60 ore, oL s2 s21 s22 s23 (sf 2), aI cI s21 3 (sse 2), aI cI s22 7 (sto 2), aI cI s23 60 (sre 2), oL s3 s31 s32 s33 (sf 3), aI cI s31 3 (sse 3), aI cI s32 7 (sto 3), aI cI s33 60 (sre 3), oL o o1 o2 o3 of, aI cI o1 3 ose, aI cI o2 7 oto, aI cI o3 60 ore] := hD
      refine ag_topn (v := xv44_3_X0_keep hf) rfl (fun x44_3 ex44_3 => ?_)
      refine ag_putX0 hx hb hG hown hK hP hD hS 0 1 rfl (by decide) k_152 (by decide) rfl rfl (Nat.le_of_ble_eq_true rfl) dX0_keep_44 (fun H locs hP hD hS => ?_)
      have hP : va_P D vwCl [oH x1 x2 (upd hf 0 x44_3), aL cL x2 (gS s0 s1 s2 s3), oL s0 s01 s02 s03 (sf 0), aI cI s01 3 (sse 0), aI cI s02 7 (sto 0), aI cI s03 60 (sre 0), oL s1 s11 s12 s13 of, aI cI s11 3 ose, aI cI s12 7 oto, aI cI s13 60 ore, oL s2 s21 s22 s23 (sf 2), aI cI s21 3 (sse 2), aI cI s22 7 (sto 2), aI cI s23 60 (sre 2), oL s3 s31 s32 s33 (sf 3), aI cI s31 3 (sse 3), aI cI s32 7 (sto 3), aI cI s33 60 (sre 3), oL o o1 o2 o3 of, aI cI o1 3 ose, aI cI o2 7 oto, aI cI o3 60 ore] H := hP
      have hD : va_D A [oH x1 x2 (upd hf 0 x44_3), aL cL x2 (gS s0 s1 s2 s3), oL s0 s01 s02 s03 (sf 0), aI cI s01 3 (sse 0), aI cI s02 7 (sto 0), aI cI s03 60 (sre 0), oL s1 s11 s12 s13 of, aI cI s11 3 ose, aI cI s12 7 oto, aI cI s13 60 ore, oL s2 s21 s22 s23 (sf 2), aI cI s21 3 (sse 2), aI cI s22 7 (sto 2), aI cI s23 60 (sre 2), oL s3 s31 s32 s33 (sf 3), aI cI s31 3 (sse 3), aI cI s32 7 (sto 3), aI cI s33 60 (sre 3), oL o o1 o2 o3 of, aI cI o1 3 ose, aI cI o2 7 oto, aI cI o3 60 ore] := hD
      revert hP; revert hD; revert hS; revert hl
      subst ex44_3
      intro hl hS hD hP
      exact ag_vret [x1, x2, s0, s01, s02, s03, s1, s11, s12, s13, s2, s21, s22, s23, s3, s31, s32, s33, o, o1, o2, o3] hx hb hr hlocks hP hS rfl rfl (by show _ = _; unfold hk_k; rw [show rox (hf 0 + hf 1) = 1 from hk, if_pos c_22]; rfl) dX0_keep_47
    · refine lv_aload_n hx hb dX0_keep_25 rfl (lv_at hl 0 rfl) ?_
      refine lv_dup hx hb dX0_keep_26 rfl ?_
      refine ag_getX0 (v := .int (hf 1)) hx hb hG hown hK hP 0 2 rfl (by decide) k_153 rfl dX0_keep_27 ?_
      refine lv_iconst (v := 1) hx hb dX0_keep_30 (by decide) ?_
      refine lv_iadd hx hb dX0_keep_31 ?_
      refine ag_topn (v := xv32_4_X0_keep hf) rfl (fun x32_4 ex32_4 => ?_)
      refine ag_putX0 hx hb hG hown hK hP hD hS 0 2 rfl (by decide) k_153 (by decide) rfl rfl (Nat.le_of_ble_eq_true rfl) dX0_keep_32 (fun H locs hP hD hS => ?_)
      have hP : va_P D vwCl [oH x1 x2 (upd hf 1 x32_4), aL cL x2 (gS s0 s1 s2 s3), oL s0 s01 s02 s03 (sf 0), aI cI s01 3 (sse 0), aI cI s02 7 (sto 0), aI cI s03 60 (sre 0), oL s1 s11 s12 s13 of, aI cI s11 3 ose, aI cI s12 7 oto, aI cI s13 60 ore, oL s2 s21 s22 s23 (sf 2), aI cI s21 3 (sse 2), aI cI s22 7 (sto 2), aI cI s23 60 (sre 2), oL s3 s31 s32 s33 (sf 3), aI cI s31 3 (sse 3), aI cI s32 7 (sto 3), aI cI s33 60 (sre 3), oL o o1 o2 o3 of, aI cI o1 3 ose, aI cI o2 7 oto, aI cI o3 60 ore] H := hP
      have hD : va_D A [oH x1 x2 (upd hf 1 x32_4), aL cL x2 (gS s0 s1 s2 s3), oL s0 s01 s02 s03 (sf 0), aI cI s01 3 (sse 0), aI cI s02 7 (sto 0), aI cI s03 60 (sre 0), oL s1 s11 s12 s13 of, aI cI s11 3 ose, aI cI s12 7 oto, aI cI s13 60 ore, oL s2 s21 s22 s23 (sf 2), aI cI s21 3 (sse 2), aI cI s22 7 (sto 2), aI cI s23 60 (sre 2), oL s3 s31 s32 s33 (sf 3), aI cI s31 3 (sse 3), aI cI s32 7 (sto 3), aI cI s33 60 (sre 3), oL o o1 o2 o3 of, aI cI o1 3 ose, aI cI o2 7 oto, aI cI o3 60 ore] := hD
      refine lv_goto (tgt := 47) hx hb dX0_keep_35 (by decide) ?_
      revert hP; revert hD; revert hS; revert hl
      subst ex32_4
      intro hl hS hD hP
      exact ag_vret [x1, x2, s0, s01, s02, s03, s1, s11, s12, s13, s2, s21, s22, s23, s3, s31, s32, s33, o, o1, o2, o3] hx hb hr hlocks hP hS rfl rfl (by show _ = _; unfold hk_k; rw [show rox (hf 0 + hf 1) = 1 from hk, if_neg c_22]; rfl) dX0_keep_47
  · refine ag_qld (k := 2) (v := s2) hx hb hK hP 1 rfl ((row_at hf (hf 1)).trans (by rw [hk])) (by decide) rfl dX0_keep_12 ?_
    refine lv_aload_n hx hb dX0_keep_13 rfl (lv_at hl 1 rfl) ?_
    refine ag_callVv (As := [.ref o]) (rest := []) hx hb hml hown hG hK hN hA hP hD hS hl (ct_X1_copyFrom l D cI cC cL s2 o s21 s22 s23 o1 o2 o3 (sf 2) (sse 2) (sto 2) (sre 2) of ose oto ore) fX1_copyFrom k_271 (ag_cut_2 4 [oH x1 x2 hf, aL cL x2 (gS s0 s1 s2 s3), oL s0 s01 s02 s03 (sf 0), aI cI s01 3 (sse 0), aI cI s02 7 (sto 0), aI cI s03 60 (sre 0), oL s1 s11 s12 s13 (sf 1), aI cI s11 3 (sse 1), aI cI s12 7 (sto 1), aI cI s13 60 (sre 1)] [oL s2 s21 s22 s23 (sf 2), aI cI s21 3 (sse 2), aI cI s22 7 (sto 2), aI cI s23 60 (sre 2)] [oL s3 s31 s32 s33 (sf 3), aI cI s31 3 (sse 3), aI cI s32 7 (sto 3), aI cI s33 60 (sre 3)] [oL o o1 o2 o3 of, aI cI o1 3 ose, aI cI o2 7 oto, aI cI o3 60 ore] [] rfl rfl rfl) (q0 := 10) rfl rfl rfl rfl (Nat.le_of_ble_eq_true rfl) ⟨Nat.le_of_ble_eq_true rfl, Nat.le_of_ble_eq_true rfl⟩ ⟨Nat.zero_le _, Nat.zero_le _⟩ dX0_keep_14 (fun w1 H locs hw hP hD hS => ?_)
    have hw : _ = w1 := hw
    subst hw
    have hP : va_P D vwCl [oH x1 x2 hf, aL cL x2 (gS s0 s1 s2 s3), oL s0 s01 s02 s03 (sf 0), aI cI s01 3 (sse 0), aI cI s02 7 (sto 0), aI cI s03 60 (sre 0), oL s1 s11 s12 s13 (sf 1), aI cI s11 3 (sse 1), aI cI s12 7 (sto 1), aI cI s13 60 (sre 1), oL s2 s21 s22 s23 of, aI cI s21 3 ose, aI cI s22 7 oto, aI cI s23 60 ore, oL s3 s31 s32 s33 (sf 3), aI cI s31 3 (sse 3), aI cI s32 7 (sto 3), aI cI s33 60 (sre 3), oL o o1 o2 o3 of, aI cI o1 3 ose, aI cI o2 7 oto, aI cI o3 60 ore] H := hP
    have hD : va_D A [oH x1 x2 hf, aL cL x2 (gS s0 s1 s2 s3), oL s0 s01 s02 s03 (sf 0), aI cI s01 3 (sse 0), aI cI s02 7 (sto 0), aI cI s03 60 (sre 0), oL s1 s11 s12 s13 (sf 1), aI cI s11 3 (sse 1), aI cI s12 7 (sto 1), aI cI s13 60 (sre 1), oL s2 s21 s22 s23 of, aI cI s21 3 ose, aI cI s22 7 oto, aI cI s23 60 ore, oL s3 s31 s32 s33 (sf 3), aI cI s31 3 (sse 3), aI cI s32 7 (sto 3), aI cI s33 60 (sre 3), oL o o1 o2 o3 of, aI cI o1 3 ose, aI cI o2 7 oto, aI cI o3 60 ore] := hD
    refine lv_aload_n hx hb dX0_keep_17 rfl (lv_at hl 0 rfl) ?_
    refine ag_getX0 (v := .int (hf 1)) hx hb hG hown hK hP 0 2 rfl (by decide) k_153 rfl dX0_keep_18 ?_
    refine lv_iconst (v := 4) hx hb dX0_keep_21 (by decide) ?_
    refine lv_icmp_ge (tgt := 38) hx hb dX0_keep_22 (by decide) (fun c_22 => ?_) (fun c_22 => ?_)
    · refine lv_aload_n hx hb dX0_keep_38 rfl (lv_at hl 0 rfl) ?_
      refine lv_aload_n hx hb dX0_keep_39 rfl (lv_at hl 0 rfl) ?_
      refine lv_iconst (v := 1) hx hb dX0_keep_40 (by decide) ?_
      refine ag_callVi (As := [.int 1]) (rest := [.ref x1]) hx hb hml hown hG hK hN hA hP hD hS hl (ct_X0_rowOf l D cI cC cL x1 x2 hf 1) fX0_rowOf k_264 (ag_cut_1 [] [aL cL x2 (gS s0 s1 s2 s3), oL s0 s01 s02 s03 (sf 0), aI cI s01 3 (sse 0), aI cI s02 7 (sto 0), aI cI s03 60 (sre 0), oL s1 s11 s12 s13 (sf 1), aI cI s11 3 (sse 1), aI cI s12 7 (sto 1), aI cI s13 60 (sre 1), oL s2 s21 s22 s23 of, aI cI s21 3 ose, aI cI s22 7 oto, aI cI s23 60 ore, oL s3 s31 s32 s33 (sf 3), aI cI s31 3 (sse 3), aI cI s32 7 (sto 3), aI cI s33 60 (sre 3), oL o o1 o2 o3 of, aI cI o1 3 ose, aI cI o2 7 oto, aI cI o3 60 ore] rfl) (q0 := 0) rfl rfl rfl rfl (Nat.le_of_ble_eq_true rfl) ⟨Nat.le_of_ble_eq_true rfl, Nat.le_of_ble_eq_true rfl⟩ ⟨Nat.zero_le _, Nat.zero_le _⟩ dX0_keep_41 (fun r w1 H locs hw hP hD hS => ?_)
      obtain ⟨rfl, hw⟩ := hw
      subst hw
      have hP : va_P D vwCl [oH x1 x2 hf, aL cL x2 (gS s0 s1 s2 s3), oL s0 s01 s02 s03 (sf 0), aI cI s01 3 (sse 0), aI cI s02 7 (sto 0), aI cI s03 60 (sre 0), oL s1 s11 s12 s13 (sf 1), aI cI s11 3 (sse 1), aI cI s12 7 (sto 1), aI cI s13 60 (sre 1), oL s2 s21 s22 s23 of, aI cI s21 3 ose, aI cI s22 7 oto, aI cI s23 60 ore, oL s3 s31 s32 s33 (sf 3), aI cI s31 3 (sse 3), aI cI s32 7 (sto 3), aI cI s33 60 (sre 3), oL o o1 o2 o3 of, aI cI o1 3 ose, aI cI o2 7 oto, aI cI o3 60 ore] H := hP
      have hD : va_D A [oH x1 x2 hf, aL cL x2 (gS s0 s1 s2 s3), oL s0 s01 s02 s03 (sf 0), aI cI s01 3 (sse 0), aI cI s02 7 (sto 0), aI cI s03 60 (sre 0), oL s1 s11 s12 s13 (sf 1), aI cI s11 3 (sse 1), aI cI s12 7 (sto 1), aI cI s13 60 (sre 1), oL s2 s21 s22 s23 of, aI cI s21 3 ose, aI cI s22 7 oto, aI cI s23 60 ore, oL s3 s31 s32 s33 (sf 3), aI cI s31 3 (sse 3), aI cI s32 7 (sto 3), aI cI s33 60 (sre 3), oL o o1 o2 o3 of, aI cI o1 3 ose, aI cI o2 7 oto, aI cI o3 60 ore] := hD
      refine ag_topn (v := xv44_5_X0_keep hf) rfl (fun x44_5 ex44_5 => ?_)
      refine ag_putX0 hx hb hG hown hK hP hD hS 0 1 rfl (by decide) k_152 (by decide) rfl rfl (Nat.le_of_ble_eq_true rfl) dX0_keep_44 (fun H locs hP hD hS => ?_)
      have hP : va_P D vwCl [oH x1 x2 (upd hf 0 x44_5), aL cL x2 (gS s0 s1 s2 s3), oL s0 s01 s02 s03 (sf 0), aI cI s01 3 (sse 0), aI cI s02 7 (sto 0), aI cI s03 60 (sre 0), oL s1 s11 s12 s13 (sf 1), aI cI s11 3 (sse 1), aI cI s12 7 (sto 1), aI cI s13 60 (sre 1), oL s2 s21 s22 s23 of, aI cI s21 3 ose, aI cI s22 7 oto, aI cI s23 60 ore, oL s3 s31 s32 s33 (sf 3), aI cI s31 3 (sse 3), aI cI s32 7 (sto 3), aI cI s33 60 (sre 3), oL o o1 o2 o3 of, aI cI o1 3 ose, aI cI o2 7 oto, aI cI o3 60 ore] H := hP
      have hD : va_D A [oH x1 x2 (upd hf 0 x44_5), aL cL x2 (gS s0 s1 s2 s3), oL s0 s01 s02 s03 (sf 0), aI cI s01 3 (sse 0), aI cI s02 7 (sto 0), aI cI s03 60 (sre 0), oL s1 s11 s12 s13 (sf 1), aI cI s11 3 (sse 1), aI cI s12 7 (sto 1), aI cI s13 60 (sre 1), oL s2 s21 s22 s23 of, aI cI s21 3 ose, aI cI s22 7 oto, aI cI s23 60 ore, oL s3 s31 s32 s33 (sf 3), aI cI s31 3 (sse 3), aI cI s32 7 (sto 3), aI cI s33 60 (sre 3), oL o o1 o2 o3 of, aI cI o1 3 ose, aI cI o2 7 oto, aI cI o3 60 ore] := hD
      revert hP; revert hD; revert hS; revert hl
      subst ex44_5
      intro hl hS hD hP
      exact ag_vret [x1, x2, s0, s01, s02, s03, s1, s11, s12, s13, s2, s21, s22, s23, s3, s31, s32, s33, o, o1, o2, o3] hx hb hr hlocks hP hS rfl rfl (by show _ = _; unfold hk_k; rw [show rox (hf 0 + hf 1) = 2 from hk, if_pos c_22]; rfl) dX0_keep_47
    · refine lv_aload_n hx hb dX0_keep_25 rfl (lv_at hl 0 rfl) ?_
      refine lv_dup hx hb dX0_keep_26 rfl ?_
      refine ag_getX0 (v := .int (hf 1)) hx hb hG hown hK hP 0 2 rfl (by decide) k_153 rfl dX0_keep_27 ?_
      refine lv_iconst (v := 1) hx hb dX0_keep_30 (by decide) ?_
      refine lv_iadd hx hb dX0_keep_31 ?_
      refine ag_topn (v := xv32_6_X0_keep hf) rfl (fun x32_6 ex32_6 => ?_)
      refine ag_putX0 hx hb hG hown hK hP hD hS 0 2 rfl (by decide) k_153 (by decide) rfl rfl (Nat.le_of_ble_eq_true rfl) dX0_keep_32 (fun H locs hP hD hS => ?_)
      have hP : va_P D vwCl [oH x1 x2 (upd hf 1 x32_6), aL cL x2 (gS s0 s1 s2 s3), oL s0 s01 s02 s03 (sf 0), aI cI s01 3 (sse 0), aI cI s02 7 (sto 0), aI cI s03 60 (sre 0), oL s1 s11 s12 s13 (sf 1), aI cI s11 3 (sse 1), aI cI s12 7 (sto 1), aI cI s13 60 (sre 1), oL s2 s21 s22 s23 of, aI cI s21 3 ose, aI cI s22 7 oto, aI cI s23 60 ore, oL s3 s31 s32 s33 (sf 3), aI cI s31 3 (sse 3), aI cI s32 7 (sto 3), aI cI s33 60 (sre 3), oL o o1 o2 o3 of, aI cI o1 3 ose, aI cI o2 7 oto, aI cI o3 60 ore] H := hP
      have hD : va_D A [oH x1 x2 (upd hf 1 x32_6), aL cL x2 (gS s0 s1 s2 s3), oL s0 s01 s02 s03 (sf 0), aI cI s01 3 (sse 0), aI cI s02 7 (sto 0), aI cI s03 60 (sre 0), oL s1 s11 s12 s13 (sf 1), aI cI s11 3 (sse 1), aI cI s12 7 (sto 1), aI cI s13 60 (sre 1), oL s2 s21 s22 s23 of, aI cI s21 3 ose, aI cI s22 7 oto, aI cI s23 60 ore, oL s3 s31 s32 s33 (sf 3), aI cI s31 3 (sse 3), aI cI s32 7 (sto 3), aI cI s33 60 (sre 3), oL o o1 o2 o3 of, aI cI o1 3 ose, aI cI o2 7 oto, aI cI o3 60 ore] := hD
      refine lv_goto (tgt := 47) hx hb dX0_keep_35 (by decide) ?_
      revert hP; revert hD; revert hS; revert hl
      subst ex32_6
      intro hl hS hD hP
      exact ag_vret [x1, x2, s0, s01, s02, s03, s1, s11, s12, s13, s2, s21, s22, s23, s3, s31, s32, s33, o, o1, o2, o3] hx hb hr hlocks hP hS rfl rfl (by show _ = _; unfold hk_k; rw [show rox (hf 0 + hf 1) = 2 from hk, if_neg c_22]; rfl) dX0_keep_47
  · refine ag_qld (k := 3) (v := s3) hx hb hK hP 1 rfl ((row_at hf (hf 1)).trans (by rw [hk])) (by decide) rfl dX0_keep_12 ?_
    refine lv_aload_n hx hb dX0_keep_13 rfl (lv_at hl 1 rfl) ?_
    refine ag_callVv (As := [.ref o]) (rest := []) hx hb hml hown hG hK hN hA hP hD hS hl (ct_X1_copyFrom l D cI cC cL s3 o s31 s32 s33 o1 o2 o3 (sf 3) (sse 3) (sto 3) (sre 3) of ose oto ore) fX1_copyFrom k_271 (ag_cut_1 [oH x1 x2 hf, aL cL x2 (gS s0 s1 s2 s3), oL s0 s01 s02 s03 (sf 0), aI cI s01 3 (sse 0), aI cI s02 7 (sto 0), aI cI s03 60 (sre 0), oL s1 s11 s12 s13 (sf 1), aI cI s11 3 (sse 1), aI cI s12 7 (sto 1), aI cI s13 60 (sre 1), oL s2 s21 s22 s23 (sf 2), aI cI s21 3 (sse 2), aI cI s22 7 (sto 2), aI cI s23 60 (sre 2)] [] rfl) (q0 := 14) rfl rfl rfl rfl (Nat.le_of_ble_eq_true rfl) ⟨Nat.le_of_ble_eq_true rfl, Nat.le_of_ble_eq_true rfl⟩ ⟨Nat.zero_le _, Nat.zero_le _⟩ dX0_keep_14 (fun w1 H locs hw hP hD hS => ?_)
    have hw : _ = w1 := hw
    subst hw
    have hP : va_P D vwCl [oH x1 x2 hf, aL cL x2 (gS s0 s1 s2 s3), oL s0 s01 s02 s03 (sf 0), aI cI s01 3 (sse 0), aI cI s02 7 (sto 0), aI cI s03 60 (sre 0), oL s1 s11 s12 s13 (sf 1), aI cI s11 3 (sse 1), aI cI s12 7 (sto 1), aI cI s13 60 (sre 1), oL s2 s21 s22 s23 (sf 2), aI cI s21 3 (sse 2), aI cI s22 7 (sto 2), aI cI s23 60 (sre 2), oL s3 s31 s32 s33 of, aI cI s31 3 ose, aI cI s32 7 oto, aI cI s33 60 ore, oL o o1 o2 o3 of, aI cI o1 3 ose, aI cI o2 7 oto, aI cI o3 60 ore] H := hP
    have hD : va_D A [oH x1 x2 hf, aL cL x2 (gS s0 s1 s2 s3), oL s0 s01 s02 s03 (sf 0), aI cI s01 3 (sse 0), aI cI s02 7 (sto 0), aI cI s03 60 (sre 0), oL s1 s11 s12 s13 (sf 1), aI cI s11 3 (sse 1), aI cI s12 7 (sto 1), aI cI s13 60 (sre 1), oL s2 s21 s22 s23 (sf 2), aI cI s21 3 (sse 2), aI cI s22 7 (sto 2), aI cI s23 60 (sre 2), oL s3 s31 s32 s33 of, aI cI s31 3 ose, aI cI s32 7 oto, aI cI s33 60 ore, oL o o1 o2 o3 of, aI cI o1 3 ose, aI cI o2 7 oto, aI cI o3 60 ore] := hD
    refine lv_aload_n hx hb dX0_keep_17 rfl (lv_at hl 0 rfl) ?_
    refine ag_getX0 (v := .int (hf 1)) hx hb hG hown hK hP 0 2 rfl (by decide) k_153 rfl dX0_keep_18 ?_
    refine lv_iconst (v := 4) hx hb dX0_keep_21 (by decide) ?_
    refine lv_icmp_ge (tgt := 38) hx hb dX0_keep_22 (by decide) (fun c_22 => ?_) (fun c_22 => ?_)
    · refine lv_aload_n hx hb dX0_keep_38 rfl (lv_at hl 0 rfl) ?_
      refine lv_aload_n hx hb dX0_keep_39 rfl (lv_at hl 0 rfl) ?_
      refine lv_iconst (v := 1) hx hb dX0_keep_40 (by decide) ?_
      refine ag_callVi (As := [.int 1]) (rest := [.ref x1]) hx hb hml hown hG hK hN hA hP hD hS hl (ct_X0_rowOf l D cI cC cL x1 x2 hf 1) fX0_rowOf k_264 (ag_cut_1 [] [aL cL x2 (gS s0 s1 s2 s3), oL s0 s01 s02 s03 (sf 0), aI cI s01 3 (sse 0), aI cI s02 7 (sto 0), aI cI s03 60 (sre 0), oL s1 s11 s12 s13 (sf 1), aI cI s11 3 (sse 1), aI cI s12 7 (sto 1), aI cI s13 60 (sre 1), oL s2 s21 s22 s23 (sf 2), aI cI s21 3 (sse 2), aI cI s22 7 (sto 2), aI cI s23 60 (sre 2), oL s3 s31 s32 s33 of, aI cI s31 3 ose, aI cI s32 7 oto, aI cI s33 60 ore, oL o o1 o2 o3 of, aI cI o1 3 ose, aI cI o2 7 oto, aI cI o3 60 ore] rfl) (q0 := 0) rfl rfl rfl rfl (Nat.le_of_ble_eq_true rfl) ⟨Nat.le_of_ble_eq_true rfl, Nat.le_of_ble_eq_true rfl⟩ ⟨Nat.zero_le _, Nat.zero_le _⟩ dX0_keep_41 (fun r w1 H locs hw hP hD hS => ?_)
      obtain ⟨rfl, hw⟩ := hw
      subst hw
      have hP : va_P D vwCl [oH x1 x2 hf, aL cL x2 (gS s0 s1 s2 s3), oL s0 s01 s02 s03 (sf 0), aI cI s01 3 (sse 0), aI cI s02 7 (sto 0), aI cI s03 60 (sre 0), oL s1 s11 s12 s13 (sf 1), aI cI s11 3 (sse 1), aI cI s12 7 (sto 1), aI cI s13 60 (sre 1), oL s2 s21 s22 s23 (sf 2), aI cI s21 3 (sse 2), aI cI s22 7 (sto 2), aI cI s23 60 (sre 2), oL s3 s31 s32 s33 of, aI cI s31 3 ose, aI cI s32 7 oto, aI cI s33 60 ore, oL o o1 o2 o3 of, aI cI o1 3 ose, aI cI o2 7 oto, aI cI o3 60 ore] H := hP
      have hD : va_D A [oH x1 x2 hf, aL cL x2 (gS s0 s1 s2 s3), oL s0 s01 s02 s03 (sf 0), aI cI s01 3 (sse 0), aI cI s02 7 (sto 0), aI cI s03 60 (sre 0), oL s1 s11 s12 s13 (sf 1), aI cI s11 3 (sse 1), aI cI s12 7 (sto 1), aI cI s13 60 (sre 1), oL s2 s21 s22 s23 (sf 2), aI cI s21 3 (sse 2), aI cI s22 7 (sto 2), aI cI s23 60 (sre 2), oL s3 s31 s32 s33 of, aI cI s31 3 ose, aI cI s32 7 oto, aI cI s33 60 ore, oL o o1 o2 o3 of, aI cI o1 3 ose, aI cI o2 7 oto, aI cI o3 60 ore] := hD
      refine ag_topn (v := xv44_7_X0_keep hf) rfl (fun x44_7 ex44_7 => ?_)
      refine ag_putX0 hx hb hG hown hK hP hD hS 0 1 rfl (by decide) k_152 (by decide) rfl rfl (Nat.le_of_ble_eq_true rfl) dX0_keep_44 (fun H locs hP hD hS => ?_)
      have hP : va_P D vwCl [oH x1 x2 (upd hf 0 x44_7), aL cL x2 (gS s0 s1 s2 s3), oL s0 s01 s02 s03 (sf 0), aI cI s01 3 (sse 0), aI cI s02 7 (sto 0), aI cI s03 60 (sre 0), oL s1 s11 s12 s13 (sf 1), aI cI s11 3 (sse 1), aI cI s12 7 (sto 1), aI cI s13 60 (sre 1), oL s2 s21 s22 s23 (sf 2), aI cI s21 3 (sse 2), aI cI s22 7 (sto 2), aI cI s23 60 (sre 2), oL s3 s31 s32 s33 of, aI cI s31 3 ose, aI cI s32 7 oto, aI cI s33 60 ore, oL o o1 o2 o3 of, aI cI o1 3 ose, aI cI o2 7 oto, aI cI o3 60 ore] H := hP
      have hD : va_D A [oH x1 x2 (upd hf 0 x44_7), aL cL x2 (gS s0 s1 s2 s3), oL s0 s01 s02 s03 (sf 0), aI cI s01 3 (sse 0), aI cI s02 7 (sto 0), aI cI s03 60 (sre 0), oL s1 s11 s12 s13 (sf 1), aI cI s11 3 (sse 1), aI cI s12 7 (sto 1), aI cI s13 60 (sre 1), oL s2 s21 s22 s23 (sf 2), aI cI s21 3 (sse 2), aI cI s22 7 (sto 2), aI cI s23 60 (sre 2), oL s3 s31 s32 s33 of, aI cI s31 3 ose, aI cI s32 7 oto, aI cI s33 60 ore, oL o o1 o2 o3 of, aI cI o1 3 ose, aI cI o2 7 oto, aI cI o3 60 ore] := hD
      revert hP; revert hD; revert hS; revert hl
      subst ex44_7
      intro hl hS hD hP
      exact ag_vret [x1, x2, s0, s01, s02, s03, s1, s11, s12, s13, s2, s21, s22, s23, s3, s31, s32, s33, o, o1, o2, o3] hx hb hr hlocks hP hS rfl rfl (by show _ = _; unfold hk_k; rw [show rox (hf 0 + hf 1) = 3 from hk, if_pos c_22]; rfl) dX0_keep_47
    · refine lv_aload_n hx hb dX0_keep_25 rfl (lv_at hl 0 rfl) ?_
      refine lv_dup hx hb dX0_keep_26 rfl ?_
      refine ag_getX0 (v := .int (hf 1)) hx hb hG hown hK hP 0 2 rfl (by decide) k_153 rfl dX0_keep_27 ?_
      refine lv_iconst (v := 1) hx hb dX0_keep_30 (by decide) ?_
      refine lv_iadd hx hb dX0_keep_31 ?_
      refine ag_topn (v := xv32_8_X0_keep hf) rfl (fun x32_8 ex32_8 => ?_)
      refine ag_putX0 hx hb hG hown hK hP hD hS 0 2 rfl (by decide) k_153 (by decide) rfl rfl (Nat.le_of_ble_eq_true rfl) dX0_keep_32 (fun H locs hP hD hS => ?_)
      have hP : va_P D vwCl [oH x1 x2 (upd hf 1 x32_8), aL cL x2 (gS s0 s1 s2 s3), oL s0 s01 s02 s03 (sf 0), aI cI s01 3 (sse 0), aI cI s02 7 (sto 0), aI cI s03 60 (sre 0), oL s1 s11 s12 s13 (sf 1), aI cI s11 3 (sse 1), aI cI s12 7 (sto 1), aI cI s13 60 (sre 1), oL s2 s21 s22 s23 (sf 2), aI cI s21 3 (sse 2), aI cI s22 7 (sto 2), aI cI s23 60 (sre 2), oL s3 s31 s32 s33 of, aI cI s31 3 ose, aI cI s32 7 oto, aI cI s33 60 ore, oL o o1 o2 o3 of, aI cI o1 3 ose, aI cI o2 7 oto, aI cI o3 60 ore] H := hP
      have hD : va_D A [oH x1 x2 (upd hf 1 x32_8), aL cL x2 (gS s0 s1 s2 s3), oL s0 s01 s02 s03 (sf 0), aI cI s01 3 (sse 0), aI cI s02 7 (sto 0), aI cI s03 60 (sre 0), oL s1 s11 s12 s13 (sf 1), aI cI s11 3 (sse 1), aI cI s12 7 (sto 1), aI cI s13 60 (sre 1), oL s2 s21 s22 s23 (sf 2), aI cI s21 3 (sse 2), aI cI s22 7 (sto 2), aI cI s23 60 (sre 2), oL s3 s31 s32 s33 of, aI cI s31 3 ose, aI cI s32 7 oto, aI cI s33 60 ore, oL o o1 o2 o3 of, aI cI o1 3 ose, aI cI o2 7 oto, aI cI o3 60 ore] := hD
      refine lv_goto (tgt := 47) hx hb dX0_keep_35 (by decide) ?_
      revert hP; revert hD; revert hS; revert hl
      subst ex32_8
      intro hl hS hD hP
      exact ag_vret [x1, x2, s0, s01, s02, s03, s1, s11, s12, s13, s2, s21, s22, s23, s3, s31, s32, s33, o, o1, o2, o3] hx hb hr hlocks hP hS rfl rfl (by show _ = _; unfold hk_k; rw [show rox (hf 0 + hf 1) = 3 from hk, if_neg c_22]; rfl) dX0_keep_47
def gb_k (hf : Nat → Int32) : Nat → Int32 := if hf 1 ≤ 0 then hf else upd hf 1 (hf 1 - 1)
def gb_o (hf : Nat → Int32) (sf : Nat → Nat → Int32) (of : Nat → Int32) : Nat → Int32 := if hf 1 ≤ 0 then of else sf (rox (hf 0 + (hf 1 - 1)))
def xv14_1_X0_giveBack (hf : Nat → Int32) : Int32 := (hf 1) - 1
abbrev po_X0_giveBack (cI cC cL : ClassId) (x1 o x2 s0 s01 s02 s03 s1 s11 s12 s13 s2 s21 s22 s23 s3 s31 s32 s33 o1 o2 o3 : Nat) (hf of ose oto ore : Nat → Int32) (sf : Nat → Nat → Int32) (sse : Nat → Nat → Int32) (sto : Nat → Nat → Int32) (sre : Nat → Nat → Int32) : va_W → Prop := fun w' => [oH x1 x2 (gb_k hf), aL cL x2 (gS s0 s1 s2 s3), oL s0 s01 s02 s03 (sf 0), aI cI s01 3 (sse 0), aI cI s02 7 (sto 0), aI cI s03 60 (sre 0), oL s1 s11 s12 s13 (sf 1), aI cI s11 3 (sse 1), aI cI s12 7 (sto 1), aI cI s13 60 (sre 1), oL s2 s21 s22 s23 (sf 2), aI cI s21 3 (sse 2), aI cI s22 7 (sto 2), aI cI s23 60 (sre 2), oL s3 s31 s32 s33 (sf 3), aI cI s31 3 (sse 3), aI cI s32 7 (sto 3), aI cI s33 60 (sre 3), oL o o1 o2 o3 (gb_o hf sf of), aI cI o1 3 (gb_o hf sse ose), aI cI o2 7 (gb_o hf sto oto), aI cI o3 60 (gb_o hf sre ore)] = w'
set_option maxHeartbeats 4000000 in
set_option maxRecDepth 100000 in
theorem ct_X0_giveBack (l : Launch) (D : va_G) (cI cC cL : ClassId) (x1 o x2 s0 s01 s02 s03 s1 s11 s12 s13 s2 s21 s22 s23 s3 s31 s32 s33 o1 o2 o3 : Nat) (hf of ose oto ore : Nat → Int32) (sf : Nat → Nat → Int32) (sse : Nat → Nat → Int32) (sto : Nat → Nat → Int32) (sre : Nat → Nat → Int32) : ag_MV l yX0_giveBack cX0_giveBack 2 2 51 D cI cC cL [.ref x1, .ref o] [oH x1 x2 hf, aL cL x2 (gS s0 s1 s2 s3), oL s0 s01 s02 s03 (sf 0), aI cI s01 3 (sse 0), aI cI s02 7 (sto 0), aI cI s03 60 (sre 0), oL s1 s11 s12 s13 (sf 1), aI cI s11 3 (sse 1), aI cI s12 7 (sto 1), aI cI s13 60 (sre 1), oL s2 s21 s22 s23 (sf 2), aI cI s21 3 (sse 2), aI cI s22 7 (sto 2), aI cI s23 60 (sre 2), oL s3 s31 s32 s33 (sf 3), aI cI s31 3 (sse 3), aI cI s32 7 (sto 3), aI cI s33 60 (sre 3), oL o o1 o2 o3 of, aI cI o1 3 ose, aI cI o2 7 oto, aI cI o3 60 ore] (po_X0_giveBack cI cC cL x1 o x2 s0 s01 s02 s03 s1 s11 s12 s13 s2 s21 s22 s23 s3 s31 s32 s33 o1 o2 o3 hf of ose oto ore sf sse sto sre) := by
  refine ag_MV.of (plainFor_of_name (by decide)) (Nat.le_of_ble_eq_true rfl) ?_
  intro p e s m below meth c hx hb hr hlocks hml hown hmn hG hK A hN hA H locs hP hD hS ls hl
  have hl : lv_has ls 2 [(0, .ref x1), (1, .ref o)] := hl
  refine lv_aload_n hx hb dX0_giveBack_0 rfl (lv_at hl 0 rfl) ?_
  refine ag_getX0 (v := .int (hf 1)) hx hb hG hown hK hP 0 2 rfl (by decide) k_153 rfl dX0_giveBack_1 ?_
  refine lv_if_le (tgt := 34) hx hb dX0_giveBack_4 (by decide) (fun c_4 => ?_) (fun c_4 => ?_)
  · exact ag_vret [x1, x2, s0, s01, s02, s03, s1, s11, s12, s13, s2, s21, s22, s23, s3, s31, s32, s33, o, o1, o2, o3] hx hb hr hlocks hP hS rfl rfl (by show _ = _; unfold gb_k gb_o; simp only [if_pos c_4]) dX0_giveBack_34
  · refine lv_aload_n hx hb dX0_giveBack_7 rfl (lv_at hl 0 rfl) ?_
    refine lv_dup hx hb dX0_giveBack_8 rfl ?_
    refine ag_getX0 (v := .int (hf 1)) hx hb hG hown hK hP 0 2 rfl (by decide) k_153 rfl dX0_giveBack_9 ?_
    refine lv_iconst (v := 1) hx hb dX0_giveBack_12 (by decide) ?_
    refine lv_isub hx hb dX0_giveBack_13 ?_
    refine ag_topn (v := xv14_1_X0_giveBack hf) rfl (fun x14_1 ex14_1 => ?_)
    refine ag_putX0 hx hb hG hown hK hP hD hS 0 2 rfl (by decide) k_153 (by decide) rfl rfl (Nat.le_of_ble_eq_true rfl) dX0_giveBack_14 (fun H locs hP hD hS => ?_)
    have hP : va_P D vwCl [oH x1 x2 (upd hf 1 x14_1), aL cL x2 (gS s0 s1 s2 s3), oL s0 s01 s02 s03 (sf 0), aI cI s01 3 (sse 0), aI cI s02 7 (sto 0), aI cI s03 60 (sre 0), oL s1 s11 s12 s13 (sf 1), aI cI s11 3 (sse 1), aI cI s12 7 (sto 1), aI cI s13 60 (sre 1), oL s2 s21 s22 s23 (sf 2), aI cI s21 3 (sse 2), aI cI s22 7 (sto 2), aI cI s23 60 (sre 2), oL s3 s31 s32 s33 (sf 3), aI cI s31 3 (sse 3), aI cI s32 7 (sto 3), aI cI s33 60 (sre 3), oL o o1 o2 o3 of, aI cI o1 3 ose, aI cI o2 7 oto, aI cI o3 60 ore] H := hP
    have hD : va_D A [oH x1 x2 (upd hf 1 x14_1), aL cL x2 (gS s0 s1 s2 s3), oL s0 s01 s02 s03 (sf 0), aI cI s01 3 (sse 0), aI cI s02 7 (sto 0), aI cI s03 60 (sre 0), oL s1 s11 s12 s13 (sf 1), aI cI s11 3 (sse 1), aI cI s12 7 (sto 1), aI cI s13 60 (sre 1), oL s2 s21 s22 s23 (sf 2), aI cI s21 3 (sse 2), aI cI s22 7 (sto 2), aI cI s23 60 (sre 2), oL s3 s31 s32 s33 (sf 3), aI cI s31 3 (sse 3), aI cI s32 7 (sto 3), aI cI s33 60 (sre 3), oL o o1 o2 o3 of, aI cI o1 3 ose, aI cI o2 7 oto, aI cI o3 60 ore] := hD
    refine lv_aload_n hx hb dX0_giveBack_17 rfl (lv_at hl 1 rfl) ?_
    refine lv_aload_n hx hb dX0_giveBack_18 rfl (lv_at hl 0 rfl) ?_
    refine ag_getX0 (v := .ref x2) hx hb hG hown hK hP 0 0 rfl (by decide) k_151 rfl dX0_giveBack_19 ?_
    refine lv_aload_n hx hb dX0_giveBack_22 rfl (lv_at hl 0 rfl) ?_
    refine lv_aload_n hx hb dX0_giveBack_23 rfl (lv_at hl 0 rfl) ?_
    refine ag_getX0 (v := .int x14_1) hx hb hG hown hK hP 0 2 rfl (by decide) k_153 rfl dX0_giveBack_24 ?_
    refine ag_callVi (As := [.int x14_1]) (rest := [.ref x2, .ref o]) hx hb hml hown hG hK hN hA hP hD hS hl (ct_X0_rowOf l D cI cC cL x1 x2 (upd hf 1 x14_1) x14_1) fX0_rowOf k_264 (ag_cut_1 [] [aL cL x2 (gS s0 s1 s2 s3), oL s0 s01 s02 s03 (sf 0), aI cI s01 3 (sse 0), aI cI s02 7 (sto 0), aI cI s03 60 (sre 0), oL s1 s11 s12 s13 (sf 1), aI cI s11 3 (sse 1), aI cI s12 7 (sto 1), aI cI s13 60 (sre 1), oL s2 s21 s22 s23 (sf 2), aI cI s21 3 (sse 2), aI cI s22 7 (sto 2), aI cI s23 60 (sre 2), oL s3 s31 s32 s33 (sf 3), aI cI s31 3 (sse 3), aI cI s32 7 (sto 3), aI cI s33 60 (sre 3), oL o o1 o2 o3 of, aI cI o1 3 ose, aI cI o2 7 oto, aI cI o3 60 ore] rfl) (q0 := 0) rfl rfl rfl rfl (Nat.le_of_ble_eq_true rfl) ⟨Nat.le_of_ble_eq_true rfl, Nat.le_of_ble_eq_true rfl⟩ ⟨Nat.zero_le _, Nat.zero_le _⟩ dX0_giveBack_27 (fun r w1 H locs hw hP hD hS => ?_)
    obtain ⟨rfl, hw⟩ := hw
    subst hw
    have hP : va_P D vwCl [oH x1 x2 (upd hf 1 x14_1), aL cL x2 (gS s0 s1 s2 s3), oL s0 s01 s02 s03 (sf 0), aI cI s01 3 (sse 0), aI cI s02 7 (sto 0), aI cI s03 60 (sre 0), oL s1 s11 s12 s13 (sf 1), aI cI s11 3 (sse 1), aI cI s12 7 (sto 1), aI cI s13 60 (sre 1), oL s2 s21 s22 s23 (sf 2), aI cI s21 3 (sse 2), aI cI s22 7 (sto 2), aI cI s23 60 (sre 2), oL s3 s31 s32 s33 (sf 3), aI cI s31 3 (sse 3), aI cI s32 7 (sto 3), aI cI s33 60 (sre 3), oL o o1 o2 o3 of, aI cI o1 3 ose, aI cI o2 7 oto, aI cI o3 60 ore] H := hP
    have hD : va_D A [oH x1 x2 (upd hf 1 x14_1), aL cL x2 (gS s0 s1 s2 s3), oL s0 s01 s02 s03 (sf 0), aI cI s01 3 (sse 0), aI cI s02 7 (sto 0), aI cI s03 60 (sre 0), oL s1 s11 s12 s13 (sf 1), aI cI s11 3 (sse 1), aI cI s12 7 (sto 1), aI cI s13 60 (sre 1), oL s2 s21 s22 s23 (sf 2), aI cI s21 3 (sse 2), aI cI s22 7 (sto 2), aI cI s23 60 (sre 2), oL s3 s31 s32 s33 (sf 3), aI cI s31 3 (sse 3), aI cI s32 7 (sto 3), aI cI s33 60 (sre 3), oL o o1 o2 o3 of, aI cI o1 3 ose, aI cI o2 7 oto, aI cI o3 60 ore] := hD
    rcases rox_4 (hf 0 + xv14_1_X0_giveBack hf) with hk | hk | hk | hk
    · refine ag_qld (k := 0) (v := s0) hx hb hK hP 1 rfl ((row_at (upd hf 1 x14_1) x14_1).trans (by rw [← ex14_1]; exact congrArg nI hk)) (by decide) rfl dX0_giveBack_30 ?_
      refine ag_callVv (As := [.ref s0]) (rest := []) hx hb hml hown hG hK hN hA hP hD hS hl (ct_X1_copyFrom l D cI cC cL o s0 o1 o2 o3 s01 s02 s03 of ose oto ore (sf 0) (sse 0) (sto 0) (sre 0)) fX1_copyFrom k_271 (ag_cut_2s 4 [oH x1 x2 (upd hf 1 x14_1), aL cL x2 (gS s0 s1 s2 s3)] [oL o o1 o2 o3 of, aI cI o1 3 ose, aI cI o2 7 oto, aI cI o3 60 ore] [oL s1 s11 s12 s13 (sf 1), aI cI s11 3 (sse 1), aI cI s12 7 (sto 1), aI cI s13 60 (sre 1), oL s2 s21 s22 s23 (sf 2), aI cI s21 3 (sse 2), aI cI s22 7 (sto 2), aI cI s23 60 (sre 2), oL s3 s31 s32 s33 (sf 3), aI cI s31 3 (sse 3), aI cI s32 7 (sto 3), aI cI s33 60 (sre 3)] [oL s0 s01 s02 s03 (sf 0), aI cI s01 3 (sse 0), aI cI s02 7 (sto 0), aI cI s03 60 (sre 0)] [] rfl rfl rfl) (q0 := 18) rfl rfl rfl rfl (Nat.le_of_ble_eq_true rfl) ⟨Nat.le_of_ble_eq_true rfl, Nat.le_of_ble_eq_true rfl⟩ ⟨Nat.zero_le _, Nat.zero_le _⟩ dX0_giveBack_31 (fun w1 H locs hw hP hD hS => ?_)
      have hw : _ = w1 := hw
      subst hw
      have hP : va_P D vwCl [oH x1 x2 (upd hf 1 x14_1), aL cL x2 (gS s0 s1 s2 s3), oL s0 s01 s02 s03 (sf 0), aI cI s01 3 (sse 0), aI cI s02 7 (sto 0), aI cI s03 60 (sre 0), oL s1 s11 s12 s13 (sf 1), aI cI s11 3 (sse 1), aI cI s12 7 (sto 1), aI cI s13 60 (sre 1), oL s2 s21 s22 s23 (sf 2), aI cI s21 3 (sse 2), aI cI s22 7 (sto 2), aI cI s23 60 (sre 2), oL s3 s31 s32 s33 (sf 3), aI cI s31 3 (sse 3), aI cI s32 7 (sto 3), aI cI s33 60 (sre 3), oL o o1 o2 o3 (sf 0), aI cI o1 3 (sse 0), aI cI o2 7 (sto 0), aI cI o3 60 (sre 0)] H := hP
      have hD : va_D A [oH x1 x2 (upd hf 1 x14_1), aL cL x2 (gS s0 s1 s2 s3), oL s0 s01 s02 s03 (sf 0), aI cI s01 3 (sse 0), aI cI s02 7 (sto 0), aI cI s03 60 (sre 0), oL s1 s11 s12 s13 (sf 1), aI cI s11 3 (sse 1), aI cI s12 7 (sto 1), aI cI s13 60 (sre 1), oL s2 s21 s22 s23 (sf 2), aI cI s21 3 (sse 2), aI cI s22 7 (sto 2), aI cI s23 60 (sre 2), oL s3 s31 s32 s33 (sf 3), aI cI s31 3 (sse 3), aI cI s32 7 (sto 3), aI cI s33 60 (sre 3), oL o o1 o2 o3 (sf 0), aI cI o1 3 (sse 0), aI cI o2 7 (sto 0), aI cI o3 60 (sre 0)] := hD
      revert hP; revert hD; revert hS; revert hl
      subst ex14_1
      intro hl hS hD hP
      exact ag_vret [x1, x2, s0, s01, s02, s03, s1, s11, s12, s13, s2, s21, s22, s23, s3, s31, s32, s33, o, o1, o2, o3] hx hb hr hlocks hP hS rfl rfl (by show _ = _; unfold gb_k gb_o; simp only [if_neg c_4]; rw [show rox (hf 0 + (hf 1 - 1)) = 0 from hk]; rfl) dX0_giveBack_34
    · refine ag_qld (k := 1) (v := s1) hx hb hK hP 1 rfl ((row_at (upd hf 1 x14_1) x14_1).trans (by rw [← ex14_1]; exact congrArg nI hk)) (by decide) rfl dX0_giveBack_30 ?_
      refine ag_callVv (As := [.ref s1]) (rest := []) hx hb hml hown hG hK hN hA hP hD hS hl (ct_X1_copyFrom l D cI cC cL o s1 o1 o2 o3 s11 s12 s13 of ose oto ore (sf 1) (sse 1) (sto 1) (sre 1)) fX1_copyFrom k_271 (ag_cut_2s 4 [oH x1 x2 (upd hf 1 x14_1), aL cL x2 (gS s0 s1 s2 s3), oL s0 s01 s02 s03 (sf 0), aI cI s01 3 (sse 0), aI cI s02 7 (sto 0), aI cI s03 60 (sre 0)] [oL o o1 o2 o3 of, aI cI o1 3 ose, aI cI o2 7 oto, aI cI o3 60 ore] [oL s2 s21 s22 s23 (sf 2), aI cI s21 3 (sse 2), aI cI s22 7 (sto 2), aI cI s23 60 (sre 2), oL s3 s31 s32 s33 (sf 3), aI cI s31 3 (sse 3), aI cI s32 7 (sto 3), aI cI s33 60 (sre 3)] [oL s1 s11 s12 s13 (sf 1), aI cI s11 3 (sse 1), aI cI s12 7 (sto 1), aI cI s13 60 (sre 1)] [] rfl rfl rfl) (q0 := 18) rfl rfl rfl rfl (Nat.le_of_ble_eq_true rfl) ⟨Nat.le_of_ble_eq_true rfl, Nat.le_of_ble_eq_true rfl⟩ ⟨Nat.zero_le _, Nat.zero_le _⟩ dX0_giveBack_31 (fun w1 H locs hw hP hD hS => ?_)
      have hw : _ = w1 := hw
      subst hw
      have hP : va_P D vwCl [oH x1 x2 (upd hf 1 x14_1), aL cL x2 (gS s0 s1 s2 s3), oL s0 s01 s02 s03 (sf 0), aI cI s01 3 (sse 0), aI cI s02 7 (sto 0), aI cI s03 60 (sre 0), oL s1 s11 s12 s13 (sf 1), aI cI s11 3 (sse 1), aI cI s12 7 (sto 1), aI cI s13 60 (sre 1), oL s2 s21 s22 s23 (sf 2), aI cI s21 3 (sse 2), aI cI s22 7 (sto 2), aI cI s23 60 (sre 2), oL s3 s31 s32 s33 (sf 3), aI cI s31 3 (sse 3), aI cI s32 7 (sto 3), aI cI s33 60 (sre 3), oL o o1 o2 o3 (sf 1), aI cI o1 3 (sse 1), aI cI o2 7 (sto 1), aI cI o3 60 (sre 1)] H := hP
      have hD : va_D A [oH x1 x2 (upd hf 1 x14_1), aL cL x2 (gS s0 s1 s2 s3), oL s0 s01 s02 s03 (sf 0), aI cI s01 3 (sse 0), aI cI s02 7 (sto 0), aI cI s03 60 (sre 0), oL s1 s11 s12 s13 (sf 1), aI cI s11 3 (sse 1), aI cI s12 7 (sto 1), aI cI s13 60 (sre 1), oL s2 s21 s22 s23 (sf 2), aI cI s21 3 (sse 2), aI cI s22 7 (sto 2), aI cI s23 60 (sre 2), oL s3 s31 s32 s33 (sf 3), aI cI s31 3 (sse 3), aI cI s32 7 (sto 3), aI cI s33 60 (sre 3), oL o o1 o2 o3 (sf 1), aI cI o1 3 (sse 1), aI cI o2 7 (sto 1), aI cI o3 60 (sre 1)] := hD
      revert hP; revert hD; revert hS; revert hl
      subst ex14_1
      intro hl hS hD hP
      exact ag_vret [x1, x2, s0, s01, s02, s03, s1, s11, s12, s13, s2, s21, s22, s23, s3, s31, s32, s33, o, o1, o2, o3] hx hb hr hlocks hP hS rfl rfl (by show _ = _; unfold gb_k gb_o; simp only [if_neg c_4]; rw [show rox (hf 0 + (hf 1 - 1)) = 1 from hk]; rfl) dX0_giveBack_34
    · refine ag_qld (k := 2) (v := s2) hx hb hK hP 1 rfl ((row_at (upd hf 1 x14_1) x14_1).trans (by rw [← ex14_1]; exact congrArg nI hk)) (by decide) rfl dX0_giveBack_30 ?_
      refine ag_callVv (As := [.ref s2]) (rest := []) hx hb hml hown hG hK hN hA hP hD hS hl (ct_X1_copyFrom l D cI cC cL o s2 o1 o2 o3 s21 s22 s23 of ose oto ore (sf 2) (sse 2) (sto 2) (sre 2)) fX1_copyFrom k_271 (ag_cut_2s 4 [oH x1 x2 (upd hf 1 x14_1), aL cL x2 (gS s0 s1 s2 s3), oL s0 s01 s02 s03 (sf 0), aI cI s01 3 (sse 0), aI cI s02 7 (sto 0), aI cI s03 60 (sre 0), oL s1 s11 s12 s13 (sf 1), aI cI s11 3 (sse 1), aI cI s12 7 (sto 1), aI cI s13 60 (sre 1)] [oL o o1 o2 o3 of, aI cI o1 3 ose, aI cI o2 7 oto, aI cI o3 60 ore] [oL s3 s31 s32 s33 (sf 3), aI cI s31 3 (sse 3), aI cI s32 7 (sto 3), aI cI s33 60 (sre 3)] [oL s2 s21 s22 s23 (sf 2), aI cI s21 3 (sse 2), aI cI s22 7 (sto 2), aI cI s23 60 (sre 2)] [] rfl rfl rfl) (q0 := 18) rfl rfl rfl rfl (Nat.le_of_ble_eq_true rfl) ⟨Nat.le_of_ble_eq_true rfl, Nat.le_of_ble_eq_true rfl⟩ ⟨Nat.zero_le _, Nat.zero_le _⟩ dX0_giveBack_31 (fun w1 H locs hw hP hD hS => ?_)
      have hw : _ = w1 := hw
      subst hw
      have hP : va_P D vwCl [oH x1 x2 (upd hf 1 x14_1), aL cL x2 (gS s0 s1 s2 s3), oL s0 s01 s02 s03 (sf 0), aI cI s01 3 (sse 0), aI cI s02 7 (sto 0), aI cI s03 60 (sre 0), oL s1 s11 s12 s13 (sf 1), aI cI s11 3 (sse 1), aI cI s12 7 (sto 1), aI cI s13 60 (sre 1), oL s2 s21 s22 s23 (sf 2), aI cI s21 3 (sse 2), aI cI s22 7 (sto 2), aI cI s23 60 (sre 2), oL s3 s31 s32 s33 (sf 3), aI cI s31 3 (sse 3), aI cI s32 7 (sto 3), aI cI s33 60 (sre 3), oL o o1 o2 o3 (sf 2), aI cI o1 3 (sse 2), aI cI o2 7 (sto 2), aI cI o3 60 (sre 2)] H := hP
      have hD : va_D A [oH x1 x2 (upd hf 1 x14_1), aL cL x2 (gS s0 s1 s2 s3), oL s0 s01 s02 s03 (sf 0), aI cI s01 3 (sse 0), aI cI s02 7 (sto 0), aI cI s03 60 (sre 0), oL s1 s11 s12 s13 (sf 1), aI cI s11 3 (sse 1), aI cI s12 7 (sto 1), aI cI s13 60 (sre 1), oL s2 s21 s22 s23 (sf 2), aI cI s21 3 (sse 2), aI cI s22 7 (sto 2), aI cI s23 60 (sre 2), oL s3 s31 s32 s33 (sf 3), aI cI s31 3 (sse 3), aI cI s32 7 (sto 3), aI cI s33 60 (sre 3), oL o o1 o2 o3 (sf 2), aI cI o1 3 (sse 2), aI cI o2 7 (sto 2), aI cI o3 60 (sre 2)] := hD
      revert hP; revert hD; revert hS; revert hl
      subst ex14_1
      intro hl hS hD hP
      exact ag_vret [x1, x2, s0, s01, s02, s03, s1, s11, s12, s13, s2, s21, s22, s23, s3, s31, s32, s33, o, o1, o2, o3] hx hb hr hlocks hP hS rfl rfl (by show _ = _; unfold gb_k gb_o; simp only [if_neg c_4]; rw [show rox (hf 0 + (hf 1 - 1)) = 2 from hk]; rfl) dX0_giveBack_34
    · refine ag_qld (k := 3) (v := s3) hx hb hK hP 1 rfl ((row_at (upd hf 1 x14_1) x14_1).trans (by rw [← ex14_1]; exact congrArg nI hk)) (by decide) rfl dX0_giveBack_30 ?_
      refine ag_callVv (As := [.ref s3]) (rest := []) hx hb hml hown hG hK hN hA hP hD hS hl (ct_X1_copyFrom l D cI cC cL o s3 o1 o2 o3 s31 s32 s33 of ose oto ore (sf 3) (sse 3) (sto 3) (sre 3)) fX1_copyFrom k_271 (ag_cut_2s 4 [oH x1 x2 (upd hf 1 x14_1), aL cL x2 (gS s0 s1 s2 s3), oL s0 s01 s02 s03 (sf 0), aI cI s01 3 (sse 0), aI cI s02 7 (sto 0), aI cI s03 60 (sre 0), oL s1 s11 s12 s13 (sf 1), aI cI s11 3 (sse 1), aI cI s12 7 (sto 1), aI cI s13 60 (sre 1), oL s2 s21 s22 s23 (sf 2), aI cI s21 3 (sse 2), aI cI s22 7 (sto 2), aI cI s23 60 (sre 2)] [oL o o1 o2 o3 of, aI cI o1 3 ose, aI cI o2 7 oto, aI cI o3 60 ore] [] [oL s3 s31 s32 s33 (sf 3), aI cI s31 3 (sse 3), aI cI s32 7 (sto 3), aI cI s33 60 (sre 3)] [] rfl rfl rfl) (q0 := 18) rfl rfl rfl rfl (Nat.le_of_ble_eq_true rfl) ⟨Nat.le_of_ble_eq_true rfl, Nat.le_of_ble_eq_true rfl⟩ ⟨Nat.zero_le _, Nat.zero_le _⟩ dX0_giveBack_31 (fun w1 H locs hw hP hD hS => ?_)
      have hw : _ = w1 := hw
      subst hw
      have hP : va_P D vwCl [oH x1 x2 (upd hf 1 x14_1), aL cL x2 (gS s0 s1 s2 s3), oL s0 s01 s02 s03 (sf 0), aI cI s01 3 (sse 0), aI cI s02 7 (sto 0), aI cI s03 60 (sre 0), oL s1 s11 s12 s13 (sf 1), aI cI s11 3 (sse 1), aI cI s12 7 (sto 1), aI cI s13 60 (sre 1), oL s2 s21 s22 s23 (sf 2), aI cI s21 3 (sse 2), aI cI s22 7 (sto 2), aI cI s23 60 (sre 2), oL s3 s31 s32 s33 (sf 3), aI cI s31 3 (sse 3), aI cI s32 7 (sto 3), aI cI s33 60 (sre 3), oL o o1 o2 o3 (sf 3), aI cI o1 3 (sse 3), aI cI o2 7 (sto 3), aI cI o3 60 (sre 3)] H := hP
      have hD : va_D A [oH x1 x2 (upd hf 1 x14_1), aL cL x2 (gS s0 s1 s2 s3), oL s0 s01 s02 s03 (sf 0), aI cI s01 3 (sse 0), aI cI s02 7 (sto 0), aI cI s03 60 (sre 0), oL s1 s11 s12 s13 (sf 1), aI cI s11 3 (sse 1), aI cI s12 7 (sto 1), aI cI s13 60 (sre 1), oL s2 s21 s22 s23 (sf 2), aI cI s21 3 (sse 2), aI cI s22 7 (sto 2), aI cI s23 60 (sre 2), oL s3 s31 s32 s33 (sf 3), aI cI s31 3 (sse 3), aI cI s32 7 (sto 3), aI cI s33 60 (sre 3), oL o o1 o2 o3 (sf 3), aI cI o1 3 (sse 3), aI cI o2 7 (sto 3), aI cI o3 60 (sre 3)] := hD
      revert hP; revert hD; revert hS; revert hl
      subst ex14_1
      intro hl hS hD hP
      exact ag_vret [x1, x2, s0, s01, s02, s03, s1, s11, s12, s13, s2, s21, s22, s23, s3, s31, s32, s33, o, o1, o2, o3] hx hb hr hlocks hP hS rfl rfl (by show _ = _; unfold gb_k gb_o; simp only [if_neg c_4]; rw [show rox (hf 0 + (hf 1 - 1)) = 3 from hk]; rfl) dX0_giveBack_34
