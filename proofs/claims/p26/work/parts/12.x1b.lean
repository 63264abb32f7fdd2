/-! methods of the class: second -/
def sr_X1_openTurbines (f : Nat → Int32) (p1 : Int32) : Int32 := if p1 < 0 then (-1000000001) else if p1 ≤ 6 then f 4 else (-1000000001)
def sw0_X1_openTurbines (f : Nat → Int32) (p1 : Int32) : Nat → Int32 := if p1 < 0 then f else if p1 ≤ 6 then upd f 4 p1 else f
abbrev po_X1_openTurbines (cI cC cL : ClassId) (h h1 h2 h3 : Nat) (f se to re : Nat → Int32) (p1 : Int32) : Int32 → va_W → Prop := fun r w' => sr_X1_openTurbines f p1 = r ∧ [oL h h1 h2 h3 (sw0_X1_openTurbines f p1), aI cI h1 3 se, aI cI h2 7 to, aI cI h3 60 re] = w'
set_option maxHeartbeats 4000000 in
set_option maxRecDepth 100000 in
theorem ct_X1_openTurbines (l : Launch) (D : va_G) (cI cC cL : ClassId) (h h1 h2 h3 : Nat) (f se to re : Nat → Int32) (p1 : Int32) : ag_MI l yX1_openTurbines cX1_openTurbines 3 .int 0 0 D cI cC cL [.ref h, .int p1] [oL h h1 h2 h3 f, aI cI h1 3 se, aI cI h2 7 to, aI cI h3 60 re] (po_X1_openTurbines cI cC cL h h1 h2 h3 f se to re p1) := by
  refine ag_MI.of (plainFor_of_name (by decide)) (Nat.le_of_ble_eq_true rfl) ?_
  intro p e s m below meth c hx hb hr hlocks hml hown hmn hG hK A hN hA H locs hP hD hS ls hl
  have hl : lv_has ls 3 [(0, .ref h), (1, .int p1)] := hl
  refine lv_iload_n hx hb dX1_openTurbines_0 rfl (lv_at hl 1 rfl) ?_
  refine lv_if_lt (tgt := 10) hx hb dX1_openTurbines_1 (by decide) (fun c_1 => ?_) (fun c_1 => ?_)
  · refine lv_ldc (v := (-1000000001)) hx hb hown (hG _ k_266) dX1_openTurbines_10 ?_
    exact ag_iret [h, h1, h2, h3] hx hb hr rfl hlocks hP hS rfl rfl ⟨(by unfold sr_X1_openTurbines; rw [if_pos c_1]), (by show _ = _; rw [show sw0_X1_openTurbines f p1 = f from (by unfold sw0_X1_openTurbines; rw [if_pos c_1])])⟩ dX1_openTurbines_12
  · refine lv_iload_n hx hb dX1_openTurbines_4 rfl (lv_at hl 1 rfl) ?_
    refine lv_bipush (v := 6) hx hb dX1_openTurbines_5 (by decide) ?_
    refine lv_icmp_le (tgt := 13) hx hb dX1_openTurbines_7 (by decide) (fun c_7 => ?_) (fun c_7 => ?_)
    · refine lv_aload_n hx hb dX1_openTurbines_13 rfl (lv_at hl 0 rfl) ?_
      refine ag_getX1 (v := .int (f 4)) hx hb hG hown hK hP 0 4 rfl (by decide) k_41 rfl dX1_openTurbines_14 ?_
      refine lv_istore_n (lv' := [(2, .int (f 4)), (0, .ref h), (1, .int p1)]) hx hb dX1_openTurbines_17 rfl hl (by decide) rfl (fun ls hl => ?_)
      refine lv_aload_n hx hb dX1_openTurbines_18 rfl (lv_at hl 1 rfl) ?_
      refine lv_iload_n hx hb dX1_openTurbines_19 rfl (lv_at hl 2 rfl) ?_
      refine ag_putX1 hx hb hG hown hK hP hD hS 0 4 rfl (by decide) k_41 (by decide) rfl rfl (Nat.le_of_ble_eq_true rfl) dX1_openTurbines_20 (fun H locs hP hD hS => ?_)
      have hP : va_P D vwCl [oL h h1 h2 h3 (upd f 4 p1), aI cI h1 3 se, aI cI h2 7 to, aI cI h3 60 re] H := hP
      have hD : va_D A [oL h h1 h2 h3 (upd f 4 p1), aI cI h1 3 se, aI cI h2 7 to, aI cI h3 60 re] := hD
      refine lv_iload_n hx hb dX1_openTurbines_23 rfl (lv_at hl 0 rfl) ?_
      exact ag_iret [h, h1, h2, h3] hx hb hr rfl hlocks hP hS rfl rfl ⟨(by unfold sr_X1_openTurbines; rw [if_neg c_1, if_pos c_7]), (by show _ = _; rw [show sw0_X1_openTurbines f p1 = upd f 4 p1 from (by unfold sw0_X1_openTurbines; rw [if_neg c_1, if_pos c_7])])⟩ dX1_openTurbines_24
    · refine lv_ldc (v := (-1000000001)) hx hb hown (hG _ k_266) dX1_openTurbines_10 ?_
      exact ag_iret [h, h1, h2, h3] hx hb hr rfl hlocks hP hS rfl rfl ⟨(by unfold sr_X1_openTurbines; rw [if_neg c_1, if_neg c_7]), (by show _ = _; rw [show sw0_X1_openTurbines f p1 = f from (by unfold sw0_X1_openTurbines; rw [if_neg c_1, if_neg c_7])])⟩ dX1_openTurbines_12
def sr_X1_setPump (f : Nat → Int32) (p1 : Int32) : Int32 := if p1 < (-500) then (-1000000001) else if p1 ≤ 500 then f 5 else (-1000000001)
def sw0_X1_setPump (f : Nat → Int32) (p1 : Int32) : Nat → Int32 := if p1 < (-500) then f else if p1 ≤ 500 then upd f 5 p1 else f
abbrev po_X1_setPump (cI cC cL : ClassId) (h h1 h2 h3 : Nat) (f se to re : Nat → Int32) (p1 : Int32) : Int32 → va_W → Prop := fun r w' => sr_X1_setPump f p1 = r ∧ [oL h h1 h2 h3 (sw0_X1_setPump f p1), aI cI h1 3 se, aI cI h2 7 to, aI cI h3 60 re] = w'
set_option maxHeartbeats 4000000 in
set_option maxRecDepth 100000 in
theorem ct_X1_setPump (l : Launch) (D : va_G) (cI cC cL : ClassId) (h h1 h2 h3 : Nat) (f se to re : Nat → Int32) (p1 : Int32) : ag_MI l yX1_setPump cX1_setPump 3 .int 0 0 D cI cC cL [.ref h, .int p1] [oL h h1 h2 h3 f, aI cI h1 3 se, aI cI h2 7 to, aI cI h3 60 re] (po_X1_setPump cI cC cL h h1 h2 h3 f se to re p1) := by
  refine ag_MI.of (plainFor_of_name (by decide)) (Nat.le_of_ble_eq_true rfl) ?_
  intro p e s m below meth c hx hb hr hlocks hml hown hmn hG hK A hN hA H locs hP hD hS ls hl
  have hl : lv_has ls 3 [(0, .ref h), (1, .int p1)] := hl
  refine lv_iload_n hx hb dX1_setPump_0 rfl (lv_at hl 1 rfl) ?_
  refine lv_sipush (v := (-500)) hx hb dX1_setPump_1 (by decide) ?_
  refine lv_icmp_lt (tgt := 14) hx hb dX1_setPump_4 (by decide) (fun c_4 => ?_) (fun c_4 => ?_)
  · refine lv_ldc (v := (-1000000001)) hx hb hown (hG _ k_266) dX1_setPump_14 ?_
    exact ag_iret [h, h1, h2, h3] hx hb hr rfl hlocks hP hS rfl rfl ⟨(by unfold sr_X1_setPump; rw [if_pos c_4]), (by show _ = _; rw [show sw0_X1_setPump f p1 = f from (by unfold sw0_X1_setPump; rw [if_pos c_4])])⟩ dX1_setPump_16
  · refine lv_iload_n hx hb dX1_setPump_7 rfl (lv_at hl 1 rfl) ?_
    refine lv_sipush (v := 500) hx hb dX1_setPump_8 (by decide) ?_
    refine lv_icmp_le (tgt := 17) hx hb dX1_setPump_11 (by decide) (fun c_11 => ?_) (fun c_11 => ?_)
    · refine lv_aload_n hx hb dX1_setPump_17 rfl (lv_at hl 0 rfl) ?_
      refine ag_getX1 (v := .int (f 5)) hx hb hG hown hK hP 0 5 rfl (by decide) k_44 rfl dX1_setPump_18 ?_
      refine lv_istore_n (lv' := [(2, .int (f 5)), (0, .ref h), (1, .int p1)]) hx hb dX1_setPump_21 rfl hl (by decide) rfl (fun ls hl => ?_)
      refine lv_aload_n hx hb dX1_setPump_22 rfl (lv_at hl 1 rfl) ?_
      refine lv_iload_n hx hb dX1_setPump_23 rfl (lv_at hl 2 rfl) ?_
      refine ag_putX1 hx hb hG hown hK hP hD hS 0 5 rfl (by decide) k_44 (by decide) rfl rfl (Nat.le_of_ble_eq_true rfl) dX1_setPump_24 (fun H locs hP hD hS => ?_)
      have hP : va_P D vwCl [oL h h1 h2 h3 (upd f 5 p1), aI cI h1 3 se, aI cI h2 7 to, aI cI h3 60 re] H := hP
      have hD : va_D A [oL h h1 h2 h3 (upd f 5 p1), aI cI h1 3 se, aI cI h2 7 to, aI cI h3 60 re] := hD
      refine lv_iload_n hx hb dX1_setPump_27 rfl (lv_at hl 0 rfl) ?_
      exact ag_iret [h, h1, h2, h3] hx hb hr rfl hlocks hP hS rfl rfl ⟨(by unfold sr_X1_setPump; rw [if_neg c_4, if_pos c_11]), (by show _ = _; rw [show sw0_X1_setPump f p1 = upd f 5 p1 from (by unfold sw0_X1_setPump; rw [if_neg c_4, if_pos c_11])])⟩ dX1_setPump_28
    · refine lv_ldc (v := (-1000000001)) hx hb hown (hG _ k_266) dX1_setPump_14 ?_
      exact ag_iret [h, h1, h2, h3] hx hb hr rfl hlocks hP hS rfl rfl ⟨(by unfold sr_X1_setPump; rw [if_neg c_4, if_neg c_11]), (by show _ = _; rw [show sw0_X1_setPump f p1 = f from (by unfold sw0_X1_setPump; rw [if_neg c_4, if_neg c_11])])⟩ dX1_setPump_16
def sr_X1_setBirds (p1 : Int32) (p2 : Int32) : Int32 := if p1 < 0 then (-1000000001) else if 144 ≤ p1 then (-1000000001) else if p2 < 0 then (-1000000001) else if p2 ≤ 144 then ag_max 0 (p2 - p1) else (-1000000001)
def sw0_X1_setBirds (f : Nat → Int32) (p1 : Int32) (p2 : Int32) : Nat → Int32 := if p1 < 0 then f else if 144 ≤ p1 then f else if p2 < 0 then f else if p2 ≤ 144 then upd (upd f 6 p1) 7 p2 else f
abbrev po_X1_setBirds (cI cC cL : ClassId) (h h1 h2 h3 : Nat) (f se to re : Nat → Int32) (p1 : Int32) (p2 : Int32) : Int32 → va_W → Prop := fun r w' => sr_X1_setBirds p1 p2 = r ∧ [oL h h1 h2 h3 (sw0_X1_setBirds f p1 p2), aI cI h1 3 se, aI cI h2 7 to, aI cI h3 60 re] = w'
set_option maxHeartbeats 4000000 in
set_option maxRecDepth 100000 in
theorem ct_X1_setBirds (l : Launch) (D : va_G) (cI cC cL : ClassId) (h h1 h2 h3 : Nat) (f se to re : Nat → Int32) (p1 : Int32) (p2 : Int32) : ag_MI l yX1_setBirds cX1_setBirds 3 .int 1 13 D cI cC cL [.ref h, .int p1, .int p2] [oL h h1 h2 h3 f, aI cI h1 3 se, aI cI h2 7 to, aI cI h3 60 re] (po_X1_setBirds cI cC cL h h1 h2 h3 f se to re p1 p2) := by
  refine ag_MI.of (plainFor_of_name (by decide)) (Nat.le_of_ble_eq_true rfl) ?_
  intro p e s m below meth c hx hb hr hlocks hml hown hmn hG hK A hN hA H locs hP hD hS ls hl
  have hl : lv_has ls 3 [(0, .ref h), (1, .int p1), (2, .int p2)] := hl
  refine lv_iload_n hx hb dX1_setBirds_0 rfl (lv_at hl 1 rfl) ?_
  refine lv_if_lt (tgt := 22) hx hb dX1_setBirds_1 (by decide) (fun c_1 => ?_) (fun c_1 => ?_)
  · refine lv_ldc (v := (-1000000001)) hx hb hown (hG _ k_266) dX1_setBirds_22 ?_
    exact ag_iret [h, h1, h2, h3] hx hb hr rfl hlocks hP hS rfl rfl ⟨(by unfold sr_X1_setBirds; rw [if_pos c_1]), (by show _ = _; rw [show sw0_X1_setBirds f p1 p2 = f from (by unfold sw0_X1_setBirds; rw [if_pos c_1])])⟩ dX1_setBirds_24
  · refine lv_iload_n hx hb dX1_setBirds_4 rfl (lv_at hl 1 rfl) ?_
    refine lv_sipush (v := 144) hx hb dX1_setBirds_5 (by decide) ?_
    refine lv_icmp_ge (tgt := 22) hx hb dX1_setBirds_8 (by decide) (fun c_8 => ?_) (fun c_8 => ?_)
    · refine lv_ldc (v := (-1000000001)) hx hb hown (hG _ k_266) dX1_setBirds_22 ?_
      exact ag_iret [h, h1, h2, h3] hx hb hr rfl hlocks hP hS rfl rfl ⟨(by unfold sr_X1_setBirds; rw [if_neg c_1, if_pos c_8]), (by show _ = _; rw [show sw0_X1_setBirds f p1 p2 = f from (by unfold sw0_X1_setBirds; rw [if_neg c_1, if_pos c_8])])⟩ dX1_setBirds_24
    · refine lv_iload_n hx hb dX1_setBirds_11 rfl (lv_at hl 2 rfl) ?_
      refine lv_if_lt (tgt := 22) hx hb dX1_setBirds_12 (by decide) (fun c_12 => ?_) (fun c_12 => ?_)
      · refine lv_ldc (v := (-1000000001)) hx hb hown (hG _ k_266) dX1_setBirds_22 ?_
        exact ag_iret [h, h1, h2, h3] hx hb hr rfl hlocks hP hS rfl rfl ⟨(by unfold sr_X1_setBirds; rw [if_neg c_1, if_neg c_8, if_pos c_12]), (by show _ = _; rw [show sw0_X1_setBirds f p1 p2 = f from (by unfold sw0_X1_setBirds; rw [if_neg c_1, if_neg c_8, if_pos c_12])])⟩ dX1_setBirds_24
      · refine lv_iload_n hx hb dX1_setBirds_15 rfl (lv_at hl 2 rfl) ?_
        refine lv_sipush (v := 144) hx hb dX1_setBirds_16 (by decide) ?_
        refine lv_icmp_le (tgt := 25) hx hb dX1_setBirds_19 (by decide) (fun c_19 => ?_) (fun c_19 => ?_)
        · refine lv_aload_n hx hb dX1_setBirds_25 rfl (lv_at hl 0 rfl) ?_
          refine lv_iload_n hx hb dX1_setBirds_26 rfl (lv_at hl 1 rfl) ?_
          refine ag_putX1 hx hb hG hown hK hP hD hS 0 6 rfl (by decide) k_47 (by decide) rfl rfl (Nat.le_of_ble_eq_true rfl) dX1_setBirds_27 (fun H locs hP hD hS => ?_)
          have hP : va_P D vwCl [oL h h1 h2 h3 (upd f 6 p1), aI cI h1 3 se, aI cI h2 7 to, aI cI h3 60 re] H := hP
          have hD : va_D A [oL h h1 h2 h3 (upd f 6 p1), aI cI h1 3 se, aI cI h2 7 to, aI cI h3 60 re] := hD
          refine lv_aload_n hx hb dX1_setBirds_30 rfl (lv_at hl 0 rfl) ?_
          refine lv_iload_n hx hb dX1_setBirds_31 rfl (lv_at hl 2 rfl) ?_
          refine ag_putX1 hx hb hG hown hK hP hD hS 0 7 rfl (by decide) k_48 (by decide) rfl rfl (Nat.le_of_ble_eq_true rfl) dX1_setBirds_32 (fun H locs hP hD hS => ?_)
          have hP : va_P D vwCl [oL h h1 h2 h3 (upd (upd f 6 p1) 7 p2), aI cI h1 3 se, aI cI h2 7 to, aI cI h3 60 re] H := hP
          have hD : va_D A [oL h h1 h2 h3 (upd (upd f 6 p1) 7 p2), aI cI h1 3 se, aI cI h2 7 to, aI cI h3 60 re] := hD
          refine lv_iconst (v := 0) hx hb dX1_setBirds_35 (by decide) ?_
          refine lv_iload_n hx hb dX1_setBirds_36 rfl (lv_at hl 2 rfl) ?_
          refine lv_iload_n hx hb dX1_setBirds_37 rfl (lv_at hl 1 rfl) ?_
          refine lv_isub hx hb dX1_setBirds_38 ?_
          refine va_mmax hx hb (hml.trans hl.1.symm) hown (hG _ k_236) (hG _ k_237) (hG _ k_14) (hG _ k_238) (Nat.le_of_ble_eq_true rfl) (Nat.le_of_ble_eq_true rfl) (Nat.zero_le _) (Nat.zero_le _) dX1_setBirds_39 ?_
          refine W.eq (g2 := F0 m 42 ls [.int (ag_max 0 (p2 - p1))]) rfl ?_
          exact ag_iret [h, h1, h2, h3] hx hb hr rfl hlocks hP hS rfl rfl ⟨(by unfold sr_X1_setBirds; rw [if_neg c_1, if_neg c_8, if_neg c_12, if_pos c_19]), (by show _ = _; rw [show sw0_X1_setBirds f p1 p2 = upd (upd f 6 p1) 7 p2 from (by unfold sw0_X1_setBirds; rw [if_neg c_1, if_neg c_8, if_neg c_12, if_pos c_19])])⟩ dX1_setBirds_42
        · refine lv_ldc (v := (-1000000001)) hx hb hown (hG _ k_266) dX1_setBirds_22 ?_
          exact ag_iret [h, h1, h2, h3] hx hb hr rfl hlocks hP hS rfl rfl ⟨(by unfold sr_X1_setBirds; rw [if_neg c_1, if_neg c_8, if_neg c_12, if_neg c_19]), (by show _ = _; rw [show sw0_X1_setBirds f p1 p2 = f from (by unfold sw0_X1_setBirds; rw [if_neg c_1, if_neg c_8, if_neg c_12, if_neg c_19])])⟩ dX1_setBirds_24
def xv33_1_X1_dredgeSilt (f : Nat → Int32) (p1 : Int32) : Int32 := (f 2) - p1
def xv45_2_X1_dredgeSilt (to : Nat → Int32) (p1 : Int32) : Int32 := (to 4) + p1
def sr_X1_dredgeSilt (f : Nat → Int32) (p1 : Int32) : Int32 := if p1 < 1 then (-1000000001) else if p1 ≤ 20000 then if p1 ≤ (f 2) then (xv33_1_X1_dredgeSilt f p1) else (-1000000002) else (-1000000001)
def sw0_X1_dredgeSilt (f : Nat → Int32) (p1 : Int32) : Nat → Int32 := if p1 < 1 then f else if p1 ≤ 20000 then if p1 ≤ (f 2) then upd f 2 (xv33_1_X1_dredgeSilt f p1) else f else f
def sw2_X1_dredgeSilt (f : Nat → Int32) (to : Nat → Int32) (p1 : Int32) : Nat → Int32 := if p1 < 1 then to else if p1 ≤ 20000 then if p1 ≤ (f 2) then upd to 4 (xv45_2_X1_dredgeSilt to p1) else to else to
abbrev po_X1_dredgeSilt (cI cC cL : ClassId) (h h1 h2 h3 : Nat) (f se to re : Nat → Int32) (p1 : Int32) : Int32 → va_W → Prop := fun r w' => sr_X1_dredgeSilt f p1 = r ∧ [oL h h1 h2 h3 (sw0_X1_dredgeSilt f p1), aI cI h1 3 se, aI cI h2 7 (sw2_X1_dredgeSilt f to p1), aI cI h3 60 re] = w'
set_option maxHeartbeats 4000000 in
set_option maxRecDepth 100000 in
theorem ct_X1_dredgeSilt (l : Launch) (D : va_G) (cI cC cL : ClassId) (h h1 h2 h3 : Nat) (f se to re : Nat → Int32) (p1 : Int32) : ag_MI l yX1_dredgeSilt cX1_dredgeSilt 2 .int 0 0 D cI cC cL [.ref h, .int p1] [oL h h1 h2 h3 f, aI cI h1 3 se, aI cI h2 7 to, aI cI h3 60 re] (po_X1_dredgeSilt cI cC cL h h1 h2 h3 f se to re p1) := by
  refine ag_MI.of (plainFor_of_name (by decide)) (Nat.le_of_ble_eq_true rfl) ?_
  intro p e s m below meth c hx hb hr hlocks hml hown hmn hG hK A hN hA H locs hP hD hS ls hl
  have hl : lv_has ls 2 [(0, .ref h), (1, .int p1)] := hl
  refine lv_iload_n hx hb dX1_dredgeSilt_0 rfl (lv_at hl 1 rfl) ?_
  refine lv_iconst (v := 1) hx hb dX1_dredgeSilt_1 (by decide) ?_
  refine lv_icmp_lt (tgt := 12) hx hb dX1_dredgeSilt_2 (by decide) (fun c_2 => ?_) (fun c_2 => ?_)
  · refine lv_ldc (v := (-1000000001)) hx hb hown (hG _ k_266) dX1_dredgeSilt_12 ?_
    exact ag_iret [h, h1, h2, h3] hx hb hr rfl hlocks hP hS rfl rfl ⟨(by unfold sr_X1_dredgeSilt; rw [if_pos c_2]), (by show _ = _; rw [show sw0_X1_dredgeSilt f p1 = f from (by unfold sw0_X1_dredgeSilt; rw [if_pos c_2]), show sw2_X1_dredgeSilt f to p1 = to from (by unfold sw2_X1_dredgeSilt; rw [if_pos c_2])])⟩ dX1_dredgeSilt_14
  · refine lv_iload_n hx hb dX1_dredgeSilt_5 rfl (lv_at hl 1 rfl) ?_
    refine lv_sipush (v := 20000) hx hb dX1_dredgeSilt_6 (by decide) ?_
    refine lv_icmp_le (tgt := 15) hx hb dX1_dredgeSilt_9 (by decide) (fun c_9 => ?_) (fun c_9 => ?_)
    · refine lv_iload_n hx hb dX1_dredgeSilt_15 rfl (lv_at hl 1 rfl) ?_
      refine lv_aload_n hx hb dX1_dredgeSilt_16 rfl (lv_at hl 0 rfl) ?_
      refine ag_getX1 (v := .int (f 2)) hx hb hG hown hK hP 0 2 rfl (by decide) k_35 rfl dX1_dredgeSilt_17 ?_
      refine lv_icmp_le (tgt := 26) hx hb dX1_dredgeSilt_20 (by decide) (fun c_20 => ?_) (fun c_20 => ?_)
      · refine lv_aload_n hx hb dX1_dredgeSilt_26 rfl (lv_at hl 0 rfl) ?_
        refine lv_dup hx hb dX1_dredgeSilt_27 rfl ?_
        refine ag_getX1 (v := .int (f 2)) hx hb hG hown hK hP 0 2 rfl (by decide) k_35 rfl dX1_dredgeSilt_28 ?_
        refine lv_iload_n hx hb dX1_dredgeSilt_31 rfl (lv_at hl 1 rfl) ?_
        refine lv_isub hx hb dX1_dredgeSilt_32 ?_
        refine ag_topn (v := xv33_1_X1_dredgeSilt f p1) rfl (fun x33_1 ex33_1 => ?_)
        refine ag_putX1 hx hb hG hown hK hP hD hS 0 2 rfl (by decide) k_35 (by decide) rfl rfl (Nat.le_of_ble_eq_true rfl) dX1_dredgeSilt_33 (fun H locs hP hD hS => ?_)
        have hP : va_P D vwCl [oL h h1 h2 h3 (upd f 2 x33_1), aI cI h1 3 se, aI cI h2 7 to, aI cI h3 60 re] H := hP
        have hD : va_D A [oL h h1 h2 h3 (upd f 2 x33_1), aI cI h1 3 se, aI cI h2 7 to, aI cI h3 60 re] := hD
        refine lv_aload_n hx hb dX1_dredgeSilt_36 rfl (lv_at hl 0 rfl) ?_
        refine ag_getX1 (v := .ref h2) hx hb hG hown hK hP 0 9 rfl (by decide) k_52 rfl dX1_dredgeSilt_37 ?_
        refine lv_iconst (v := 4) hx hb dX1_dredgeSilt_40 (by decide) ?_
        refine lv_dup2_11 hx hb dX1_dredgeSilt_41 rfl rfl ?_
        refine ag_ild (k := 4) (v := to 4) hx hb hK hP 2 rfl rfl (Nat.le_of_ble_eq_true rfl) (Nat.le_of_ble_eq_true rfl) rfl dX1_dredgeSilt_42 ?_
        refine lv_iload_n hx hb dX1_dredgeSilt_43 rfl (lv_at hl 1 rfl) ?_
        refine lv_iadd hx hb dX1_dredgeSilt_44 ?_
        refine ag_topn (v := xv45_2_X1_dredgeSilt to p1) rfl (fun x45_2 ex45_2 => ?_)
        refine ag_ist (k := 4) hx hb hK hP hD hS 2 rfl rfl (Nat.le_of_ble_eq_true rfl) (Nat.le_of_ble_eq_true rfl) dX1_dredgeSilt_45 (fun H locs hP hD hS => ?_)
        have hP : va_P D vwCl [oL h h1 h2 h3 (upd f 2 x33_1), aI cI h1 3 se, aI cI h2 7 (upd to 4 x45_2), aI cI h3 60 re] H := hP
        have hD : va_D A [oL h h1 h2 h3 (upd f 2 x33_1), aI cI h1 3 se, aI cI h2 7 (upd to 4 x45_2), aI cI h3 60 re] := hD
        refine lv_aload_n hx hb dX1_dredgeSilt_46 rfl (lv_at hl 0 rfl) ?_
        refine ag_getX1 (v := .int x33_1) hx hb hG hown hK hP 0 2 rfl (by decide) k_35 rfl dX1_dredgeSilt_47 ?_
        revert hP; revert hD; revert hS; revert hl
        subst ex45_2
        subst ex33_1
        intro hl hS hD hP
        exact ag_iret [h, h1, h2, h3] hx hb hr rfl hlocks hP hS rfl rfl ⟨(by unfold sr_X1_dredgeSilt; rw [if_neg c_2, if_pos c_9, if_pos c_20]), (by show _ = _; rw [show sw0_X1_dredgeSilt f p1 = upd f 2 (xv33_1_X1_dredgeSilt f p1) from (by unfold sw0_X1_dredgeSilt; rw [if_neg c_2, if_pos c_9, if_pos c_20]), show sw2_X1_dredgeSilt f to p1 = upd to 4 (xv45_2_X1_dredgeSilt to p1) from (by unfold sw2_X1_dredgeSilt; rw [if_neg c_2, if_pos c_9, if_pos c_20])])⟩ dX1_dredgeSilt_50
      · refine lv_ldc (v := (-1000000002)) hx hb hown (hG _ k_318) dX1_dredgeSilt_23 ?_
        exact ag_iret [h, h1, h2, h3] hx hb hr rfl hlocks hP hS rfl rfl ⟨(by unfold sr_X1_dredgeSilt; rw [if_neg c_2, if_pos c_9, if_neg c_20]), (by show _ = _; rw [show sw0_X1_dredgeSilt f p1 = f from (by unfold sw0_X1_dredgeSilt; rw [if_neg c_2, if_pos c_9, if_neg c_20]), show sw2_X1_dredgeSilt f to p1 = to from (by unfold sw2_X1_dredgeSilt; rw [if_neg c_2, if_pos c_9, if_neg c_20])])⟩ dX1_dredgeSilt_25
    · refine lv_ldc (v := (-1000000001)) hx hb hown (hG _ k_266) dX1_dredgeSilt_12 ?_
      exact ag_iret [h, h1, h2, h3] hx hb hr rfl hlocks hP hS rfl rfl ⟨(by unfold sr_X1_dredgeSilt; rw [if_neg c_2, if_neg c_9]), (by show _ = _; rw [show sw0_X1_dredgeSilt f p1 = f from (by unfold sw0_X1_dredgeSilt; rw [if_neg c_2, if_neg c_9]), show sw2_X1_dredgeSilt f to p1 = to from (by unfold sw2_X1_dredgeSilt; rw [if_neg c_2, if_neg c_9])])⟩ dX1_dredgeSilt_14
def sr_X1_changeSetting (se : Nat → Int32) (p1 : Int32) (p2 : Int32) : Int32 := if p1 < 0 then (-1000000001) else if p1 < 3 then if p2 < (if p1.toNatClampNeg = 1 then 0 else 1) then (-1000000001) else if p2 ≤ (if p1.toNatClampNeg = 2 then 9999 else 400) then se p1.toNatClampNeg else (-1000000001) else (-1000000001)
def sw1_X1_changeSetting (se : Nat → Int32) (p1 : Int32) (p2 : Int32) : Nat → Int32 := if p1 < 0 then se else if p1 < 3 then if p2 < (if p1.toNatClampNeg = 1 then 0 else 1) then se else if p2 ≤ (if p1.toNatClampNeg = 2 then 9999 else 400) then upd se p1.toNatClampNeg p2 else se else se
abbrev po_X1_changeSetting (cI cC cL : ClassId) (h h1 h2 h3 : Nat) (f se to re : Nat → Int32) (p1 : Int32) (p2 : Int32) : Int32 → va_W → Prop := fun r w' => sr_X1_changeSetting se p1 p2 = r ∧ [oL h h1 h2 h3 f, aI cI h1 3 (sw1_X1_changeSetting se p1 p2), aI cI h2 7 to, aI cI h3 60 re] = w'
set_option maxHeartbeats 4000000 in
set_option maxRecDepth 100000 in
theorem ct_X1_changeSetting (l : Launch) (D : va_G) (cI cC cL : ClassId) (h h1 h2 h3 : Nat) (f se to re : Nat → Int32) (p1 : Int32) (p2 : Int32) : ag_MI l yX1_changeSetting cX1_changeSetting 4 .int 0 0 D cI cC cL [.ref h, .int p1, .int p2] [oL h h1 h2 h3 f, aI cI h1 3 se, aI cI h2 7 to, aI cI h3 60 re] (po_X1_changeSetting cI cC cL h h1 h2 h3 f se to re p1 p2) := by
  refine ag_MI.of (plainFor_of_name (by decide)) (Nat.le_of_ble_eq_true rfl) ?_
  intro p e s m below meth c hx hb hr hlocks hml hown hmn hG hK A hN hA H locs hP hD hS ls hl
  have hl : lv_has ls 4 [(0, .ref h), (1, .int p1), (2, .int p2)] := hl
  obtain ⟨tL, tM, hzL, hyL, hzM, hyM⟩ := hN.2
  refine lv_iload_n hx hb dX1_changeSetting_0 rfl (lv_at hl 1 rfl) ?_
  refine lv_if_lt (tgt := 9) hx hb dX1_changeSetting_1 (by decide) (fun c_1 => ?_) (fun c_1 => ?_)
  · refine lv_ldc (v := (-1000000001)) hx hb hown (hG _ k_266) dX1_changeSetting_9 ?_
    exact ag_iret [h, h1, h2, h3] hx hb hr rfl hlocks hP hS rfl rfl ⟨(by unfold sr_X1_changeSetting; rw [if_pos c_1]), (by show _ = _; rw [show sw1_X1_changeSetting se p1 p2 = se from (by unfold sw1_X1_changeSetting; rw [if_pos c_1])])⟩ dX1_changeSetting_11
  · refine lv_iload_n hx hb dX1_changeSetting_4 rfl (lv_at hl 1 rfl) ?_
    refine lv_iconst (v := 3) hx hb dX1_changeSetting_5 (by decide) ?_
    refine lv_icmp_lt (tgt := 12) hx hb dX1_changeSetting_6 (by decide) (fun c_6 => ?_) (fun c_6 => ?_)
    · refine lv_iload_n hx hb dX1_changeSetting_12 rfl (lv_at hl 2 rfl) ?_
      refine va_getsN hx hb hzL hS hown (va_Nw.use rfl hN.1.2.2.2.2.2.2.2.2.1) (fun _ h9 => h9) dX1_changeSetting_13 ?_
      refine lv_iload_n hx hb dX1_changeSetting_16 rfl (lv_at hl 1 rfl) ?_
      refine va_ti hx hb hyL hS (N := 3) (v := .int (if p1.toNatClampNeg = 1 then 0 else 1)) (by rw [(ag_ixr (n := 3) (by decide) c_1 c_6).1]; exact vp_in_nI (ag_ixr (n := 3) (by decide) c_1 c_6).2 (by decide)) rfl dX1_changeSetting_17 ?_
      refine lv_icmp_lt (tgt := 30) hx hb dX1_changeSetting_18 (by decide) (fun c_18 => ?_) (fun c_18 => ?_)
      · refine lv_ldc (v := (-1000000001)) hx hb hown (hG _ k_266) dX1_changeSetting_30 ?_
        exact ag_iret [h, h1, h2, h3] hx hb hr rfl hlocks hP hS rfl rfl ⟨(by unfold sr_X1_changeSetting; rw [if_neg c_1, if_pos c_6, if_pos c_18]), (by show _ = _; rw [show sw1_X1_changeSetting se p1 p2 = se from (by unfold sw1_X1_changeSetting; rw [if_neg c_1, if_pos c_6, if_pos c_18])])⟩ dX1_changeSetting_32
      · refine lv_iload_n hx hb dX1_changeSetting_21 rfl (lv_at hl 2 rfl) ?_
        refine va_getsN hx hb hzM hS hown (va_Nw.use rfl hN.1.2.2.2.2.2.2.2.2.2) (fun _ h9 => h9) dX1_changeSetting_22 ?_
        refine lv_iload_n hx hb dX1_changeSetting_25 rfl (lv_at hl 1 rfl) ?_
        refine va_ti hx hb hyM hS (N := 3) (v := .int (if p1.toNatClampNeg = 2 then 9999 else 400)) (by rw [(ag_ixr (n := 3) (by decide) c_1 c_6).1]; exact vp_in_nI (ag_ixr (n := 3) (by decide) c_1 c_6).2 (by decide)) rfl dX1_changeSetting_26 ?_
        refine lv_icmp_le (tgt := 33) hx hb dX1_changeSetting_27 (by decide) (fun c_27 => ?_) (fun c_27 => ?_)
        · refine lv_aload_n hx hb dX1_changeSetting_33 rfl (lv_at hl 0 rfl) ?_
          refine ag_getX1 (v := .ref h1) hx hb hG hown hK hP 0 8 rfl (by decide) k_49 rfl dX1_changeSetting_34 ?_
          refine lv_iload_n hx hb dX1_changeSetting_37 rfl (lv_at hl 1 rfl) ?_
          refine ag_ild (k := p1.toNatClampNeg) (v := se p1.toNatClampNeg) hx hb hK hP 1 rfl (ag_ixr (n := 3) (by decide) c_1 c_6).1 (ag_ixr (n := 3) (by decide) c_1 c_6).2 (Nat.le_of_ble_eq_true rfl) rfl dX1_changeSetting_38 ?_
          refine lv_istore_n (lv' := [(3, .int (se p1.toNatClampNeg)), (0, .ref h), (1, .int p1), (2, .int p2)]) hx hb dX1_changeSetting_39 rfl hl (by decide) rfl (fun ls hl => ?_)
          refine lv_aload_n hx hb dX1_changeSetting_40 rfl (lv_at hl 1 rfl) ?_
          refine ag_getX1 (v := .ref h1) hx hb hG hown hK hP 0 8 rfl (by decide) k_49 rfl dX1_changeSetting_41 ?_
          refine lv_iload_n hx hb dX1_changeSetting_44 rfl (lv_at hl 2 rfl) ?_
          refine lv_iload_n hx hb dX1_changeSetting_45 rfl (lv_at hl 3 rfl) ?_
          refine ag_ist (k := p1.toNatClampNeg) hx hb hK hP hD hS 1 rfl (ag_ixr (n := 3) (by decide) c_1 c_6).1 (ag_ixr (n := 3) (by decide) c_1 c_6).2 (Nat.le_of_ble_eq_true rfl) dX1_changeSetting_46 (fun H locs hP hD hS => ?_)
          have hP : va_P D vwCl [oL h h1 h2 h3 f, aI cI h1 3 (upd se p1.toNatClampNeg p2), aI cI h2 7 to, aI cI h3 60 re] H := hP
          have hD : va_D A [oL h h1 h2 h3 f, aI cI h1 3 (upd se p1.toNatClampNeg p2), aI cI h2 7 to, aI cI h3 60 re] := hD
          refine lv_iload_n hx hb dX1_changeSetting_47 rfl (lv_at hl 0 rfl) ?_
          exact ag_iret [h, h1, h2, h3] hx hb hr rfl hlocks hP hS rfl rfl ⟨(by unfold sr_X1_changeSetting; rw [if_neg c_1, if_pos c_6, if_neg c_18, if_pos c_27]), (by show _ = _; rw [show sw1_X1_changeSetting se p1 p2 = upd se p1.toNatClampNeg p2 from (by unfold sw1_X1_changeSetting; rw [if_neg c_1, if_pos c_6, if_neg c_18, if_pos c_27])])⟩ dX1_changeSetting_48
        · refine lv_ldc (v := (-1000000001)) hx hb hown (hG _ k_266) dX1_changeSetting_30 ?_
          exact ag_iret [h, h1, h2, h3] hx hb hr rfl hlocks hP hS rfl rfl ⟨(by unfold sr_X1_changeSetting; rw [if_neg c_1, if_pos c_6, if_neg c_18, if_neg c_27]), (by show _ = _; rw [show sw1_X1_changeSetting se p1 p2 = se from (by unfold sw1_X1_changeSetting; rw [if_neg c_1, if_pos c_6, if_neg c_18, if_neg c_27])])⟩ dX1_changeSetting_32
    · refine lv_ldc (v := (-1000000001)) hx hb hown (hG _ k_266) dX1_changeSetting_9 ?_
      exact ag_iret [h, h1, h2, h3] hx hb hr rfl hlocks hP hS rfl rfl ⟨(by unfold sr_X1_changeSetting; rw [if_neg c_1, if_neg c_6]), (by show _ = _; rw [show sw1_X1_changeSetting se p1 p2 = se from (by unfold sw1_X1_changeSetting; rw [if_neg c_1, if_neg c_6])])⟩ dX1_changeSetting_11
abbrev po_X1_copyFrom (cI cC cL : ClassId) (h o h1 h2 h3 o1 o2 o3 : Nat) (f se to re of ose oto ore : Nat → Int32) : va_W → Prop := fun w' => [oL h h1 h2 h3 of, aI cI h1 3 ose, aI cI h2 7 oto, aI cI h3 60 ore, oL o o1 o2 o3 of, aI cI o1 3 ose, aI cI o2 7 oto, aI cI o3 60 ore] = w'
set_option maxHeartbeats 4000000 in
set_option maxRecDepth 100000 in
theorem ct_X1_copyFrom (l : Launch) (D : va_G) (cI cC cL : ClassId) (h o h1 h2 h3 o1 o2 o3 : Nat) (f se to re of ose oto ore : Nat → Int32) : ag_MV l yX1_copyFrom cX1_copyFrom 2 1 30 D cI cC cL [.ref h, .ref o] [oL h h1 h2 h3 f, aI cI h1 3 se, aI cI h2 7 to, aI cI h3 60 re, oL o o1 o2 o3 of, aI cI o1 3 ose, aI cI o2 7 oto, aI cI o3 60 ore] (po_X1_copyFrom cI cC cL h o h1 h2 h3 o1 o2 o3 f se to re of ose oto ore) := by
  refine ag_MV.of (plainFor_of_name (by decide)) (Nat.le_of_ble_eq_true rfl) ?_
  intro p e s m below meth c hx hb hr hlocks hml hown hmn hG hK A hN hA H locs hP hD hS ls hl
  have hl : lv_has ls 2 [(0, .ref h), (1, .ref o)] := hl
  refine lv_aload_n hx hb dX1_copyFrom_0 rfl (lv_at hl 0 rfl) ?_
  refine lv_aload_n hx hb dX1_copyFrom_1 rfl (lv_at hl 1 rfl) ?_
  refine ag_getX1 (v := .int (of 0)) hx hb hG hown hK hP 4 0 rfl (by decide) k_30 rfl dX1_copyFrom_2 ?_
  refine ag_putX1 hx hb hG hown hK hP hD hS 0 0 rfl (by decide) k_30 (by decide) rfl rfl (Nat.le_of_ble_eq_true rfl) dX1_copyFrom_5 (fun H locs hP hD hS => ?_)
  have hP : va_P D vwCl [oL h h1 h2 h3 (upd f 0 (of 0)), aI cI h1 3 se, aI cI h2 7 to, aI cI h3 60 re, oL o o1 o2 o3 of, aI cI o1 3 ose, aI cI o2 7 oto, aI cI o3 60 ore] H := hP
  have hD : va_D A [oL h h1 h2 h3 (upd f 0 (of 0)), aI cI h1 3 se, aI cI h2 7 to, aI cI h3 60 re, oL o o1 o2 o3 of, aI cI o1 3 ose, aI cI o2 7 oto, aI cI o3 60 ore] := hD
  refine lv_aload_n hx hb dX1_copyFrom_8 rfl (lv_at hl 0 rfl) ?_
  refine lv_aload_n hx hb dX1_copyFrom_9 rfl (lv_at hl 1 rfl) ?_
  refine ag_getX1 (v := .int (of 1)) hx hb hG hown hK hP 4 1 rfl (by decide) k_32 rfl dX1_copyFrom_10 ?_
  refine ag_putX1 hx hb hG hown hK hP hD hS 0 1 rfl (by decide) k_32 (by decide) rfl rfl (Nat.le_of_ble_eq_true rfl) dX1_copyFrom_13 (fun H locs hP hD hS => ?_)
  have hP : va_P D vwCl [oL h h1 h2 h3 (upd (upd f 0 (of 0)) 1 (of 1)), aI cI h1 3 se, aI cI h2 7 to, aI cI h3 60 re, oL o o1 o2 o3 of, aI cI o1 3 ose, aI cI o2 7 oto, aI cI o3 60 ore] H := hP
  have hD : va_D A [oL h h1 h2 h3 (upd (upd f 0 (of 0)) 1 (of 1)), aI cI h1 3 se, aI cI h2 7 to, aI cI h3 60 re, oL o o1 o2 o3 of, aI cI o1 3 ose, aI cI o2 7 oto, aI cI o3 60 ore] := hD
  refine lv_aload_n hx hb dX1_copyFrom_16 rfl (lv_at hl 0 rfl) ?_
  refine lv_aload_n hx hb dX1_copyFrom_17 rfl (lv_at hl 1 rfl) ?_
  refine ag_getX1 (v := .int (of 2)) hx hb hG hown hK hP 4 2 rfl (by decide) k_35 rfl dX1_copyFrom_18 ?_
  refine ag_putX1 hx hb hG hown hK hP hD hS 0 2 rfl (by decide) k_35 (by decide) rfl rfl (Nat.le_of_ble_eq_true rfl) dX1_copyFrom_21 (fun H locs hP hD hS => ?_)
  have hP : va_P D vwCl [oL h h1 h2 h3 (upd (upd (upd f 0 (of 0)) 1 (of 1)) 2 (of 2)), aI cI h1 3 se, aI cI h2 7 to, aI cI h3 60 re, oL o o1 o2 o3 of, aI cI o1 3 ose, aI cI o2 7 oto, aI cI o3 60 ore] H := hP
  have hD : va_D A [oL h h1 h2 h3 (upd (upd (upd f 0 (of 0)) 1 (of 1)) 2 (of 2)), aI cI h1 3 se, aI cI h2 7 to, aI cI h3 60 re, oL o o1 o2 o3 of, aI cI o1 3 ose, aI cI o2 7 oto, aI cI o3 60 ore] := hD
  refine lv_aload_n hx hb dX1_copyFrom_24 rfl (lv_at hl 0 rfl) ?_
  refine lv_aload_n hx hb dX1_copyFrom_25 rfl (lv_at hl 1 rfl) ?_
  refine ag_getX1 (v := .int (of 3)) hx hb hG hown hK hP 4 3 rfl (by decide) k_39 rfl dX1_copyFrom_26 ?_
  refine ag_putX1 hx hb hG hown hK hP hD hS 0 3 rfl (by decide) k_39 (by decide) rfl rfl (Nat.le_of_ble_eq_true rfl) dX1_copyFrom_29 (fun H locs hP hD hS => ?_)
  have hP : va_P D vwCl [oL h h1 h2 h3 (upd (upd (upd (upd f 0 (of 0)) 1 (of 1)) 2 (of 2)) 3 (of 3)), aI cI h1 3 se, aI cI h2 7 to, aI cI h3 60 re, oL o o1 o2 o3 of, aI cI o1 3 ose, aI cI o2 7 oto, aI cI o3 60 ore] H := hP
  have hD : va_D A [oL h h1 h2 h3 (upd (upd (upd (upd f 0 (of 0)) 1 (of 1)) 2 (of 2)) 3 (of 3)), aI cI h1 3 se, aI cI h2 7 to, aI cI h3 60 re, oL o o1 o2 o3 of, aI cI o1 3 ose, aI cI o2 7 oto, aI cI o3 60 ore] := hD
  refine lv_aload_n hx hb dX1_copyFrom_32 rfl (lv_at hl 0 rfl) ?_
  refine lv_aload_n hx hb dX1_copyFrom_33 rfl (lv_at hl 1 rfl) ?_
  refine ag_getX1 (v := .int (of 4)) hx hb hG hown hK hP 4 4 rfl (by decide) k_41 rfl dX1_copyFrom_34 ?_
  refine ag_putX1 hx hb hG hown hK hP hD hS 0 4 rfl (by decide) k_41 (by decide) rfl rfl (Nat.le_of_ble_eq_true rfl) dX1_copyFrom_37 (fun H locs hP hD hS => ?_)
  have hP : va_P D vwCl [oL h h1 h2 h3 (upd (upd (upd (upd (upd f 0 (of 0)) 1 (of 1)) 2 (of 2)) 3 (of 3)) 4 (of 4)), aI cI h1 3 se, aI cI h2 7 to, aI cI h3 60 re, oL o o1 o2 o3 of, aI cI o1 3 ose, aI cI o2 7 oto, aI cI o3 60 ore] H := hP
  have hD : va_D A [oL h h1 h2 h3 (upd (upd (upd (upd (upd f 0 (of 0)) 1 (of 1)) 2 (of 2)) 3 (of 3)) 4 (of 4)), aI cI h1 3 se, aI cI h2 7 to, aI cI h3 60 re, oL o o1 o2 o3 of, aI cI o1 3 ose, aI cI o2 7 oto, aI cI o3 60 ore] := hD
  refine lv_aload_n hx hb dX1_copyFrom_40 rfl (lv_at hl 0 rfl) ?_
  refine lv_aload_n hx hb dX1_copyFrom_41 rfl (lv_at hl 1 rfl) ?_
  refine ag_getX1 (v := .int (of 5)) hx hb hG hown hK hP 4 5 rfl (by decide) k_44 rfl dX1_copyFrom_42 ?_
  refine ag_putX1 hx hb hG hown hK hP hD hS 0 5 rfl (by decide) k_44 (by decide) rfl rfl (Nat.le_of_ble_eq_true rfl) dX1_copyFrom_45 (fun H locs hP hD hS => ?_)
  have hP : va_P D vwCl [oL h h1 h2 h3 (upd (upd (upd (upd (upd (upd f 0 (of 0)) 1 (of 1)) 2 (of 2)) 3 (of 3)) 4 (of 4)) 5 (of 5)), aI cI h1 3 se, aI cI h2 7 to, aI cI h3 60 re, oL o o1 o2 o3 of, aI cI o1 3 ose, aI cI o2 7 oto, aI cI o3 60 ore] H := hP
  have hD : va_D A [oL h h1 h2 h3 (upd (upd (upd (upd (upd (upd f 0 (of 0)) 1 (of 1)) 2 (of 2)) 3 (of 3)) 4 (of 4)) 5 (of 5)), aI cI h1 3 se, aI cI h2 7 to, aI cI h3 60 re, oL o o1 o2 o3 of, aI cI o1 3 ose, aI cI o2 7 oto, aI cI o3 60 ore] := hD
  refine lv_aload_n hx hb dX1_copyFrom_48 rfl (lv_at hl 0 rfl) ?_
  refine lv_aload_n hx hb dX1_copyFrom_49 rfl (lv_at hl 1 rfl) ?_
  refine ag_getX1 (v := .int (of 6)) hx hb hG hown hK hP 4 6 rfl (by decide) k_47 rfl dX1_copyFrom_50 ?_
  refine ag_putX1 hx hb hG hown hK hP hD hS 0 6 rfl (by decide) k_47 (by decide) rfl rfl (Nat.le_of_ble_eq_true rfl) dX1_copyFrom_53 (fun H locs hP hD hS => ?_)
  have hP : va_P D vwCl [oL h h1 h2 h3 (upd (upd (upd (upd (upd (upd (upd f 0 (of 0)) 1 (of 1)) 2 (of 2)) 3 (of 3)) 4 (of 4)) 5 (of 5)) 6 (of 6)), aI cI h1 3 se, aI cI h2 7 to, aI cI h3 60 re, oL o o1 o2 o3 of, aI cI o1 3 ose, aI cI o2 7 oto, aI cI o3 60 ore] H := hP
  have hD : va_D A [oL h h1 h2 h3 (upd (upd (upd (upd (upd (upd (upd f 0 (of 0)) 1 (of 1)) 2 (of 2)) 3 (of 3)) 4 (of 4)) 5 (of 5)) 6 (of 6)), aI cI h1 3 se, aI cI h2 7 to, aI cI h3 60 re, oL o o1 o2 o3 of, aI cI o1 3 ose, aI cI o2 7 oto, aI cI o3 60 ore] := hD
  refine lv_aload_n hx hb dX1_copyFrom_56 rfl (lv_at hl 0 rfl) ?_
  refine lv_aload_n hx hb dX1_copyFrom_57 rfl (lv_at hl 1 rfl) ?_
  refine ag_getX1 (v := .int (of 7)) hx hb hG hown hK hP 4 7 rfl (by decide) k_48 rfl dX1_copyFrom_58 ?_
  refine ag_putX1 hx hb hG hown hK hP hD hS 0 7 rfl (by decide) k_48 (by decide) rfl rfl (Nat.le_of_ble_eq_true rfl) dX1_copyFrom_61 (fun H locs hP hD hS => ?_)
  have hP : va_P D vwCl [oL h h1 h2 h3 (upd (upd (upd (upd (upd (upd (upd (upd f 0 (of 0)) 1 (of 1)) 2 (of 2)) 3 (of 3)) 4 (of 4)) 5 (of 5)) 6 (of 6)) 7 (of 7)), aI cI h1 3 se, aI cI h2 7 to, aI cI h3 60 re, oL o o1 o2 o3 of, aI cI o1 3 ose, aI cI o2 7 oto, aI cI o3 60 ore] H := hP
  have hD : va_D A [oL h h1 h2 h3 (upd (upd (upd (upd (upd (upd (upd (upd f 0 (of 0)) 1 (of 1)) 2 (of 2)) 3 (of 3)) 4 (of 4)) 5 (of 5)) 6 (of 6)) 7 (of 7)), aI cI h1 3 se, aI cI h2 7 to, aI cI h3 60 re, oL o o1 o2 o3 of, aI cI o1 3 ose, aI cI o2 7 oto, aI cI o3 60 ore] := hD
  refine lv_aload_n hx hb dX1_copyFrom_64 rfl (lv_at hl 1 rfl) ?_
  refine ag_getX1 (v := .ref o1) hx hb hG hown hK hP 4 8 rfl (by decide) k_49 rfl dX1_copyFrom_65 ?_
  refine lv_iconst (v := 0) hx hb dX1_copyFrom_68 (by decide) ?_
  refine lv_aload_n hx hb dX1_copyFrom_69 rfl (lv_at hl 0 rfl) ?_
  refine ag_getX1 (v := .ref h1) hx hb hG hown hK hP 0 8 rfl (by decide) k_49 rfl dX1_copyFrom_70 ?_
  refine lv_iconst (v := 0) hx hb dX1_copyFrom_73 (by decide) ?_
  refine lv_iconst (v := 3) hx hb dX1_copyFrom_74 (by decide) ?_
  refine ag_copy (n := 3) hx hb (hml.trans hl.1.symm) hown (hG _ k_259) hG hK hP hD hS 5 1 rfl rfl rfl ⟨rfl, rfl⟩ (Nat.le_of_ble_eq_true rfl) (Nat.le_of_ble_eq_true rfl) (Nat.le_of_ble_eq_true rfl) dX1_copyFrom_75 (fun H locs hP hD hS => ?_)
  have hP : va_P D vwCl [oL h h1 h2 h3 (upd (upd (upd (upd (upd (upd (upd (upd f 0 (of 0)) 1 (of 1)) 2 (of 2)) 3 (of 3)) 4 (of 4)) 5 (of 5)) 6 (of 6)) 7 (of 7)), aI cI h1 3 ose, aI cI h2 7 to, aI cI h3 60 re, oL o o1 o2 o3 of, aI cI o1 3 ose, aI cI o2 7 oto, aI cI o3 60 ore] H := hP
  have hD : va_D A [oL h h1 h2 h3 (upd (upd (upd (upd (upd (upd (upd (upd f 0 (of 0)) 1 (of 1)) 2 (of 2)) 3 (of 3)) 4 (of 4)) 5 (of 5)) 6 (of 6)) 7 (of 7)), aI cI h1 3 ose, aI cI h2 7 to, aI cI h3 60 re, oL o o1 o2 o3 of, aI cI o1 3 ose, aI cI o2 7 oto, aI cI o3 60 ore] := hD
  refine lv_aload_n hx hb dX1_copyFrom_78 rfl (lv_at hl 1 rfl) ?_
  refine ag_getX1 (v := .ref o2) hx hb hG hown hK hP 4 9 rfl (by decide) k_52 rfl dX1_copyFrom_79 ?_
  refine lv_iconst (v := 0) hx hb dX1_copyFrom_82 (by decide) ?_
  refine lv_aload_n hx hb dX1_copyFrom_83 rfl (lv_at hl 0 rfl) ?_
  refine ag_getX1 (v := .ref h2) hx hb hG hown hK hP 0 9 rfl (by decide) k_52 rfl dX1_copyFrom_84 ?_
  refine lv_iconst (v := 0) hx hb dX1_copyFrom_87 (by decide) ?_
  refine lv_bipush (v := 7) hx hb dX1_copyFrom_88 (by decide) ?_
  refine ag_copy (n := 7) hx hb (hml.trans hl.1.symm) hown (hG _ k_259) hG hK hP hD hS 6 2 rfl rfl rfl ⟨rfl, rfl⟩ (Nat.le_of_ble_eq_true rfl) (Nat.le_of_ble_eq_true rfl) (Nat.le_of_ble_eq_true rfl) dX1_copyFrom_90 (fun H locs hP hD hS => ?_)
  have hP : va_P D vwCl [oL h h1 h2 h3 (upd (upd (upd (upd (upd (upd (upd (upd f 0 (of 0)) 1 (of 1)) 2 (of 2)) 3 (of 3)) 4 (of 4)) 5 (of 5)) 6 (of 6)) 7 (of 7)), aI cI h1 3 ose, aI cI h2 7 oto, aI cI h3 60 re, oL o o1 o2 o3 of, aI cI o1 3 ose, aI cI o2 7 oto, aI cI o3 60 ore] H := hP
  have hD : va_D A [oL h h1 h2 h3 (upd (upd (upd (upd (upd (upd (upd (upd f 0 (of 0)) 1 (of 1)) 2 (of 2)) 3 (of 3)) 4 (of 4)) 5 (of 5)) 6 (of 6)) 7 (of 7)), aI cI h1 3 ose, aI cI h2 7 oto, aI cI h3 60 re, oL o o1 o2 o3 of, aI cI o1 3 ose, aI cI o2 7 oto, aI cI o3 60 ore] := hD
  refine lv_aload_n hx hb dX1_copyFrom_93 rfl (lv_at hl 1 rfl) ?_
  refine ag_getX1 (v := .ref o3) hx hb hG hown hK hP 4 10 rfl (by decide) k_54 rfl dX1_copyFrom_94 ?_
  refine lv_iconst (v := 0) hx hb dX1_copyFrom_97 (by decide) ?_
  refine lv_aload_n hx hb dX1_copyFrom_98 rfl (lv_at hl 0 rfl) ?_
  refine ag_getX1 (v := .ref h3) hx hb hG hown hK hP 0 10 rfl (by decide) k_54 rfl dX1_copyFrom_99 ?_
  refine lv_iconst (v := 0) hx hb dX1_copyFrom_102 (by decide) ?_
  refine lv_bipush (v := 60) hx hb dX1_copyFrom_103 (by decide) ?_
  refine ag_copy (n := 60) hx hb (hml.trans hl.1.symm) hown (hG _ k_259) hG hK hP hD hS 7 3 rfl rfl rfl ⟨rfl, rfl⟩ (Nat.le_of_ble_eq_true rfl) (Nat.le_of_ble_eq_true rfl) (Nat.le_of_ble_eq_true rfl) dX1_copyFrom_105 (fun H locs hP hD hS => ?_)
  have hP : va_P D vwCl [oL h h1 h2 h3 (upd (upd (upd (upd (upd (upd (upd (upd f 0 (of 0)) 1 (of 1)) 2 (of 2)) 3 (of 3)) 4 (of 4)) 5 (of 5)) 6 (of 6)) 7 (of 7)), aI cI h1 3 ose, aI cI h2 7 oto, aI cI h3 60 ore, oL o o1 o2 o3 of, aI cI o1 3 ose, aI cI o2 7 oto, aI cI o3 60 ore] H := hP
  have hD : va_D A [oL h h1 h2 h3 (upd (upd (upd (upd (upd (upd (upd (upd f 0 (of 0)) 1 (of 1)) 2 (of 2)) 3 (of 3)) 4 (of 4)) 5 (of 5)) 6 (of 6)) 7 (of 7)), aI cI h1 3 ose, aI cI h2 7 oto, aI cI h3 60 ore, oL o o1 o2 o3 of, aI cI o1 3 ose, aI cI o2 7 oto, aI cI o3 60 ore] := hD
  exact ag_vret [h, h1, h2, h3, o, o1, o2, o3] hx hb hr hlocks hP hS rfl rfl rfl dX1_copyFrom_108
def sr_X1_lastDay (f : Nat → Int32) : Int32 := sr_J9_floorDiv_7cf53 ((f 0) - 1) 144
abbrev po_X1_lastDay (cI cC cL : ClassId) (h h1 h2 h3 : Nat) (f se to re : Nat → Int32) : Int32 → va_W → Prop := fun r w' => sr_X1_lastDay f = r ∧ [oL h h1 h2 h3 f, aI cI h1 3 se, aI cI h2 7 to, aI cI h3 60 re] = w'
set_option maxHeartbeats 4000000 in
set_option maxRecDepth 100000 in
theorem ct_X1_lastDay (l : Launch) (D : va_G) (cI cC cL : ClassId) (h h1 h2 h3 : Nat) (f se to re : Nat → Int32) : ag_MI l yX1_lastDay cX1_lastDay 1 .int 1 22 D cI cC cL [.ref h] [oL h h1 h2 h3 f, aI cI h1 3 se, aI cI h2 7 to, aI cI h3 60 re] (po_X1_lastDay cI cC cL h h1 h2 h3 f se to re) := by
  refine ag_MI.of (plainFor_of_name (by decide)) (Nat.le_of_ble_eq_true rfl) ?_
  intro p e s m below meth c hx hb hr hlocks hml hown hmn hG hK A hN hA H locs hP hD hS ls hl
  have hl : lv_has ls 1 [(0, .ref h)] := hl
  refine lv_aload_n hx hb dX1_lastDay_0 rfl (lv_at hl 0 rfl) ?_
  refine ag_getX1 (v := .int (f 0)) hx hb hG hown hK hP 0 0 rfl (by decide) k_30 rfl dX1_lastDay_1 ?_
  refine lv_iconst (v := 1) hx hb dX1_lastDay_4 (by decide) ?_
  refine lv_isub hx hb dX1_lastDay_5 ?_
  refine lv_sipush (v := 144) hx hb dX1_lastDay_6 (by decide) ?_
  refine ag_callSi (As := [.int ((f 0) - 1), .int 144]) (rest := []) hx hb hml hown hG hK hN hA hP hD hS hl (ct_J9_floorDiv_7cf53 l D cI cC cL ((f 0) - 1) 144 (by decide)) fJ9_floorDiv_7cf53 k_228 ag_cut_0 rfl (Nat.le_of_ble_eq_true rfl) ⟨Nat.le_of_ble_eq_true rfl, Nat.le_of_ble_eq_true rfl⟩ ⟨Nat.zero_le _, Nat.zero_le _⟩ dX1_lastDay_9 (fun r w1 H locs hw hP hD hS => ?_)
  obtain ⟨rfl, hw⟩ := hw
  subst hw
  have hP : va_P D vwCl [oL h h1 h2 h3 f, aI cI h1 3 se, aI cI h2 7 to, aI cI h3 60 re] H := hP
  have hD : va_D A [oL h h1 h2 h3 f, aI cI h1 3 se, aI cI h2 7 to, aI cI h3 60 re] := hD
  exact ag_iret [h, h1, h2, h3] hx hb hr rfl hlocks hP hS rfl rfl ⟨rfl, rfl⟩ dX1_lastDay_12
def sr_X1_firstDay (f : Nat → Int32) : Int32 := ag_max 0 (((sr_X1_lastDay f) - 10) + 1)
abbrev po_X1_firstDay (cI cC cL : ClassId) (h h1 h2 h3 : Nat) (f se to re : Nat → Int32) : Int32 → va_W → Prop := fun r w' => sr_X1_firstDay f = r ∧ [oL h h1 h2 h3 f, aI cI h1 3 se, aI cI h2 7 to, aI cI h3 60 re] = w'
set_option maxHeartbeats 4000000 in
set_option maxRecDepth 100000 in
theorem ct_X1_firstDay (l : Launch) (D : va_G) (cI cC cL : ClassId) (h h1 h2 h3 : Nat) (f se to re : Nat → Int32) : ag_MI l yX1_firstDay cX1_firstDay 1 .int 2 42 D cI cC cL [.ref h] [oL h h1 h2 h3 f, aI cI h1 3 se, aI cI h2 7 to, aI cI h3 60 re] (po_X1_firstDay cI cC cL h h1 h2 h3 f se to re) := by
  refine ag_MI.of (plainFor_of_name (by decide)) (Nat.le_of_ble_eq_true rfl) ?_
  intro p e s m below meth c hx hb hr hlocks hml hown hmn hG hK A hN hA H locs hP hD hS ls hl
  have hl : lv_has ls 1 [(0, .ref h)] := hl
  refine lv_iconst (v := 0) hx hb dX1_firstDay_0 (by decide) ?_
  refine lv_aload_n hx hb dX1_firstDay_1 rfl (lv_at hl 0 rfl) ?_
  refine ag_callVi (As := []) (rest := [.int 0]) hx hb hml hown hG hK hN hA hP hD hS hl (ct_X1_lastDay l D cI cC cL h h1 h2 h3 f se to re) fX1_lastDay k_235 ag_cut_all (q0 := 0) rfl rfl rfl rfl (Nat.le_of_ble_eq_true rfl) ⟨Nat.le_of_ble_eq_true rfl, Nat.le_of_ble_eq_true rfl⟩ ⟨Nat.zero_le _, Nat.zero_le _⟩ dX1_firstDay_2 (fun r w1 H locs hw hP hD hS => ?_)
  obtain ⟨rfl, hw⟩ := hw
  subst hw
  have hP : va_P D vwCl [oL h h1 h2 h3 f, aI cI h1 3 se, aI cI h2 7 to, aI cI h3 60 re] H := hP
  have hD : va_D A [oL h h1 h2 h3 f, aI cI h1 3 se, aI cI h2 7 to, aI cI h3 60 re] := hD
  refine lv_bipush (v := 10) hx hb dX1_firstDay_5 (by decide) ?_
  refine lv_isub hx hb dX1_firstDay_7 ?_
  refine lv_iconst (v := 1) hx hb dX1_firstDay_8 (by decide) ?_
  refine lv_iadd hx hb dX1_firstDay_9 ?_
  refine va_mmax hx hb (hml.trans hl.1.symm) hown (hG _ k_236) (hG _ k_237) (hG _ k_14) (hG _ k_238) (Nat.le_of_ble_eq_true rfl) (Nat.le_of_ble_eq_true rfl) (Nat.zero_le _) (Nat.zero_le _) dX1_firstDay_10 ?_
  refine W.eq (g2 := F0 m 13 ls [.int (ag_max 0 (((sr_X1_lastDay f) - 10) + 1))]) rfl ?_
  exact ag_iret [h, h1, h2, h3] hx hb hr rfl hlocks hP hS rfl rfl ⟨rfl, rfl⟩ dX1_firstDay_13
def xv10_1_X1_take (f : Nat → Int32) (kf : Nat → Int32) : Int32 := (f 1) + (kf 3)
def xv23_2_X1_take (f : Nat → Int32) (kf : Nat → Int32) : Int32 := (f 2) + (kf 6)
def xv38_3_X1_take (to : Nat → Int32) (kf : Nat → Int32) : Int32 := (to 0) + (kf 4)
def xv51_4_X1_take (to : Nat → Int32) (kf : Nat → Int32) : Int32 := (to 1) + (kf 5)
def xv68_5_X1_take (to : Nat → Int32) (kf : Nat → Int32) : Int32 := (to 2) + (ag_max 0 (kf 3))
def xv86_6_X1_take (to : Nat → Int32) (kf : Nat → Int32) : Int32 := (to 3) + (ag_max 0 (-(kf 3)))
def xv103_7_X1_take (to : Nat → Int32) (kf : Nat → Int32) : Int32 := (to 5) + (ag_max 0 (kf 6))
def xv122_8_X1_take (to : Nat → Int32) (kf : Nat → Int32) : Int32 := (to 6) + (ag_max 0 (-(kf 6)))
def sw0_X1_take (f : Nat → Int32) (kf : Nat → Int32) : Nat → Int32 := upd (upd f 1 (xv10_1_X1_take f kf)) 2 (xv23_2_X1_take f kf)
def sw2_X1_take (to : Nat → Int32) (kf : Nat → Int32) : Nat → Int32 := upd (upd (upd (upd (upd (upd to 0 (xv38_3_X1_take to kf)) 1 (xv51_4_X1_take to kf)) 2 (xv68_5_X1_take to kf)) 3 (xv86_6_X1_take to kf)) 5 (xv103_7_X1_take to kf)) 6 (xv122_8_X1_take to kf)
abbrev po_X1_take (cI cC cL : ClassId) (h t1 h1 h2 h3 : Nat) (f se to re kf : Nat → Int32) : va_W → Prop := fun w' => [oL h h1 h2 h3 (sw0_X1_take f kf), aI cI h1 3 se, aI cI h2 7 (sw2_X1_take to kf), aI cI h3 60 re, oK t1 kf] = w'
set_option maxHeartbeats 4000000 in
set_option maxRecDepth 100000 in
theorem ct_X1_take (l : Launch) (D : va_G) (cI cC cL : ClassId) (h t1 h1 h2 h3 : Nat) (f se to re kf : Nat → Int32) : ag_MV l yX1_take cX1_take 2 1 16 D cI cC cL [.ref h, .ref t1] [oL h h1 h2 h3 f, aI cI h1 3 se, aI cI h2 7 to, aI cI h3 60 re, oK t1 kf] (po_X1_take cI cC cL h t1 h1 h2 h3 f se to re kf) := by
  refine ag_MV.of (plainFor_of_name (by decide)) (Nat.le_of_ble_eq_true rfl) ?_
  intro p e s m below meth c hx hb hr hlocks hml hown hmn hG hK A hN hA H locs hP hD hS ls hl
  have hl : lv_has ls 2 [(0, .ref h), (1, .ref t1)] := hl
  refine lv_aload_n hx hb dX1_take_0 rfl (lv_at hl 0 rfl) ?_
  refine lv_dup hx hb dX1_take_1 rfl ?_
  refine ag_getX1 (v := .int (f 1)) hx hb hG hown hK hP 0 1 rfl (by decide) k_32 rfl dX1_take_2 ?_
  refine lv_aload_n hx hb dX1_take_5 rfl (lv_at hl 1 rfl) ?_
  refine ag_getX4 (v := .int (kf 3)) hx hb hG hown hK hP 4 3 rfl (by decide) k_94 rfl dX1_take_6 ?_
  refine lv_iadd hx hb dX1_take_9 ?_
  refine ag_topn (v := xv10_1_X1_take f kf) rfl (fun x10_1 ex10_1 => ?_)
  refine ag_putX1 hx hb hG hown hK hP hD hS 0 1 rfl (by decide) k_32 (by decide) rfl rfl (Nat.le_of_ble_eq_true rfl) dX1_take_10 (fun H locs hP hD hS => ?_)
  have hP : va_P D vwCl [oL h h1 h2 h3 (upd f 1 x10_1), aI cI h1 3 se, aI cI h2 7 to, aI cI h3 60 re, oK t1 kf] H := hP
  have hD : va_D A [oL h h1 h2 h3 (upd f 1 x10_1), aI cI h1 3 se, aI cI h2 7 to, aI cI h3 60 re, oK t1 kf] := hD
  refine lv_aload_n hx hb dX1_take_13 rfl (lv_at hl 0 rfl) ?_
  refine lv_dup hx hb dX1_take_14 rfl ?_
  refine ag_getX1 (v := .int (f 2)) hx hb hG hown hK hP 0 2 rfl (by decide) k_35 rfl dX1_take_15 ?_
  refine lv_aload_n hx hb dX1_take_18 rfl (lv_at hl 1 rfl) ?_
  refine ag_getX4 (v := .int (kf 6)) hx hb hG hown hK hP 4 6 rfl (by decide) k_103 rfl dX1_take_19 ?_
  refine lv_iadd hx hb dX1_take_22 ?_
  refine ag_topn (v := xv23_2_X1_take f kf) rfl (fun x23_2 ex23_2 => ?_)
  refine ag_putX1 hx hb hG hown hK hP hD hS 0 2 rfl (by decide) k_35 (by decide) rfl rfl (Nat.le_of_ble_eq_true rfl) dX1_take_23 (fun H locs hP hD hS => ?_)
  have hP : va_P D vwCl [oL h h1 h2 h3 (upd (upd f 1 x10_1) 2 x23_2), aI cI h1 3 se, aI cI h2 7 to, aI cI h3 60 re, oK t1 kf] H := hP
  have hD : va_D A [oL h h1 h2 h3 (upd (upd f 1 x10_1) 2 x23_2), aI cI h1 3 se, aI cI h2 7 to, aI cI h3 60 re, oK t1 kf] := hD
  refine lv_aload_n hx hb dX1_take_26 rfl (lv_at hl 0 rfl) ?_
  refine ag_getX1 (v := .ref h2) hx hb hG hown hK hP 0 9 rfl (by decide) k_52 rfl dX1_take_27 ?_
  refine lv_iconst (v := 0) hx hb dX1_take_30 (by decide) ?_
  refine lv_dup2_11 hx hb dX1_take_31 rfl rfl ?_
  refine ag_ild (k := 0) (v := to 0) hx hb hK hP 2 rfl rfl (Nat.le_of_ble_eq_true rfl) (Nat.le_of_ble_eq_true rfl) rfl dX1_take_32 ?_
  refine lv_aload_n hx hb dX1_take_33 rfl (lv_at hl 1 rfl) ?_
  refine ag_getX4 (v := .int (kf 4)) hx hb hG hown hK hP 4 4 rfl (by decide) k_97 rfl dX1_take_34 ?_
  refine lv_iadd hx hb dX1_take_37 ?_
  refine ag_topn (v := xv38_3_X1_take to kf) rfl (fun x38_3 ex38_3 => ?_)
  refine ag_ist (k := 0) hx hb hK hP hD hS 2 rfl rfl (Nat.le_of_ble_eq_true rfl) (Nat.le_of_ble_eq_true rfl) dX1_take_38 (fun H locs hP hD hS => ?_)
  have hP : va_P D vwCl [oL h h1 h2 h3 (upd (upd f 1 x10_1) 2 x23_2), aI cI h1 3 se, aI cI h2 7 (upd to 0 x38_3), aI cI h3 60 re, oK t1 kf] H := hP
  have hD : va_D A [oL h h1 h2 h3 (upd (upd f 1 x10_1) 2 x23_2), aI cI h1 3 se, aI cI h2 7 (upd to 0 x38_3), aI cI h3 60 re, oK t1 kf] := hD
  refine lv_aload_n hx hb dX1_take_39 rfl (lv_at hl 0 rfl) ?_
  refine ag_getX1 (v := .ref h2) hx hb hG hown hK hP 0 9 rfl (by decide) k_52 rfl dX1_take_40 ?_
  refine lv_iconst (v := 1) hx hb dX1_take_43 (by decide) ?_
  refine lv_dup2_11 hx hb dX1_take_44 rfl rfl ?_
  refine ag_ild (k := 1) (v := to 1) hx hb hK hP 2 rfl rfl (Nat.le_of_ble_eq_true rfl) (Nat.le_of_ble_eq_true rfl) rfl dX1_take_45 ?_
  refine lv_aload_n hx hb dX1_take_46 rfl (lv_at hl 1 rfl) ?_
  refine ag_getX4 (v := .int (kf 5)) hx hb hG hown hK hP 4 5 rfl (by decide) k_100 rfl dX1_take_47 ?_
  refine lv_iadd hx hb dX1_take_50 ?_
  refine ag_topn (v := xv51_4_X1_take to kf) rfl (fun x51_4 ex51_4 => ?_)
  refine ag_ist (k := 1) hx hb hK hP hD hS 2 rfl rfl (Nat.le_of_ble_eq_true rfl) (Nat.le_of_ble_eq_true rfl) dX1_take_51 (fun H locs hP hD hS => ?_)
  have hP : va_P D vwCl [oL h h1 h2 h3 (upd (upd f 1 x10_1) 2 x23_2), aI cI h1 3 se, aI cI h2 7 (upd (upd to 0 x38_3) 1 x51_4), aI cI h3 60 re, oK t1 kf] H := hP
  have hD : va_D A [oL h h1 h2 h3 (upd (upd f 1 x10_1) 2 x23_2), aI cI h1 3 se, aI cI h2 7 (upd (upd to 0 x38_3) 1 x51_4), aI cI h3 60 re, oK t1 kf] := hD
  refine lv_aload_n hx hb dX1_take_52 rfl (lv_at hl 0 rfl) ?_
  refine ag_getX1 (v := .ref h2) hx hb hG hown hK hP 0 9 rfl (by decide) k_52 rfl dX1_take_53 ?_
  refine lv_iconst (v := 2) hx hb dX1_take_56 (by decide) ?_
  refine lv_dup2_11 hx hb dX1_take_57 rfl rfl ?_
  refine ag_ild (k := 2) (v := to 2) hx hb hK hP 2 rfl rfl (Nat.le_of_ble_eq_true rfl) (Nat.le_of_ble_eq_true rfl) rfl dX1_take_58 ?_
  refine lv_iconst (v := 0) hx hb dX1_take_59 (by decide) ?_
  refine lv_aload_n hx hb dX1_take_60 rfl (lv_at hl 1 rfl) ?_
  refine ag_getX4 (v := .int (kf 3)) hx hb hG hown hK hP 4 3 rfl (by decide) k_94 rfl dX1_take_61 ?_
  refine va_mmax hx hb (hml.trans hl.1.symm) hown (hG _ k_236) (hG _ k_237) (hG _ k_14) (hG _ k_238) (Nat.le_of_ble_eq_true rfl) (Nat.le_of_ble_eq_true rfl) (Nat.zero_le _) (Nat.zero_le _) dX1_take_64 ?_
  refine W.eq (g2 := F0 m 67 ls [.int (ag_max 0 (kf 3)), .int (to 2), .int 2, .ref h2]) rfl ?_
  refine lv_iadd hx hb dX1_take_67 ?_
  refine ag_topn (v := xv68_5_X1_take to kf) rfl (fun x68_5 ex68_5 => ?_)
  refine ag_ist (k := 2) hx hb hK hP hD hS 2 rfl rfl (Nat.le_of_ble_eq_true rfl) (Nat.le_of_ble_eq_true rfl) dX1_take_68 (fun H locs hP hD hS => ?_)
  have hP : va_P D vwCl [oL h h1 h2 h3 (upd (upd f 1 x10_1) 2 x23_2), aI cI h1 3 se, aI cI h2 7 (upd (upd (upd to 0 x38_3) 1 x51_4) 2 x68_5), aI cI h3 60 re, oK t1 kf] H := hP
  have hD : va_D A [oL h h1 h2 h3 (upd (upd f 1 x10_1) 2 x23_2), aI cI h1 3 se, aI cI h2 7 (upd (upd (upd to 0 x38_3) 1 x51_4) 2 x68_5), aI cI h3 60 re, oK t1 kf] := hD
  refine lv_aload_n hx hb dX1_take_69 rfl (lv_at hl 0 rfl) ?_
  refine ag_getX1 (v := .ref h2) hx hb hG hown hK hP 0 9 rfl (by decide) k_52 rfl dX1_take_70 ?_
  refine lv_iconst (v := 3) hx hb dX1_take_73 (by decide) ?_
  refine lv_dup2_11 hx hb dX1_take_74 rfl rfl ?_
  refine ag_ild (k := 3) (v := to 3) hx hb hK hP 2 rfl rfl (Nat.le_of_ble_eq_true rfl) (Nat.le_of_ble_eq_true rfl) rfl dX1_take_75 ?_
  refine lv_iconst (v := 0) hx hb dX1_take_76 (by decide) ?_
  refine lv_aload_n hx hb dX1_take_77 rfl (lv_at hl 1 rfl) ?_
  refine ag_getX4 (v := .int (kf 3)) hx hb hG hown hK hP 4 3 rfl (by decide) k_94 rfl dX1_take_78 ?_
  refine lv_ineg hx hb dX1_take_81 ?_
  refine va_mmax hx hb (hml.trans hl.1.symm) hown (hG _ k_236) (hG _ k_237) (hG _ k_14) (hG _ k_238) (Nat.le_of_ble_eq_true rfl) (Nat.le_of_ble_eq_true rfl) (Nat.zero_le _) (Nat.zero_le _) dX1_take_82 ?_
  refine W.eq (g2 := F0 m 85 ls [.int (ag_max 0 (-(kf 3))), .int (to 3), .int 3, .ref h2]) rfl ?_
  refine lv_iadd hx hb dX1_take_85 ?_
  refine ag_topn (v := xv86_6_X1_take to kf) rfl (fun x86_6 ex86_6 => ?_)
  refine ag_ist (k := 3) hx hb hK hP hD hS 2 rfl rfl (Nat.le_of_ble_eq_true rfl) (Nat.le_of_ble_eq_true rfl) dX1_take_86 (fun H locs hP hD hS => ?_)
  have hP : va_P D vwCl [oL h h1 h2 h3 (upd (upd f 1 x10_1) 2 x23_2), aI cI h1 3 se, aI cI h2 7 (upd (upd (upd (upd to 0 x38_3) 1 x51_4) 2 x68_5) 3 x86_6), aI cI h3 60 re, oK t1 kf] H := hP
  have hD : va_D A [oL h h1 h2 h3 (upd (upd f 1 x10_1) 2 x23_2), aI cI h1 3 se, aI cI h2 7 (upd (upd (upd (upd to 0 x38_3) 1 x51_4) 2 x68_5) 3 x86_6), aI cI h3 60 re, oK t1 kf] := hD
  refine lv_aload_n hx hb dX1_take_87 rfl (lv_at hl 0 rfl) ?_
  refine ag_getX1 (v := .ref h2) hx hb hG hown hK hP 0 9 rfl (by decide) k_52 rfl dX1_take_88 ?_
  refine lv_iconst (v := 5) hx hb dX1_take_91 (by decide) ?_
  refine lv_dup2_11 hx hb dX1_take_92 rfl rfl ?_
  refine ag_ild (k := 5) (v := to 5) hx hb hK hP 2 rfl rfl (Nat.le_of_ble_eq_true rfl) (Nat.le_of_ble_eq_true rfl) rfl dX1_take_93 ?_
  refine lv_iconst (v := 0) hx hb dX1_take_94 (by decide) ?_
  refine lv_aload_n hx hb dX1_take_95 rfl (lv_at hl 1 rfl) ?_
  refine ag_getX4 (v := .int (kf 6)) hx hb hG hown hK hP 4 6 rfl (by decide) k_103 rfl dX1_take_96 ?_
  refine va_mmax hx hb (hml.trans hl.1.symm) hown (hG _ k_236) (hG _ k_237) (hG _ k_14) (hG _ k_238) (Nat.le_of_ble_eq_true rfl) (Nat.le_of_ble_eq_true rfl) (Nat.zero_le _) (Nat.zero_le _) dX1_take_99 ?_
  refine W.eq (g2 := F0 m 102 ls [.int (ag_max 0 (kf 6)), .int (to 5), .int 5, .ref h2]) rfl ?_
  refine lv_iadd hx hb dX1_take_102 ?_
  refine ag_topn (v := xv103_7_X1_take to kf) rfl (fun x103_7 ex103_7 => ?_)
  refine ag_ist (k := 5) hx hb hK hP hD hS 2 rfl rfl (Nat.le_of_ble_eq_true rfl) (Nat.le_of_ble_eq_true rfl) dX1_take_103 (fun H locs hP hD hS => ?_)
  have hP : va_P D vwCl [oL h h1 h2 h3 (upd (upd f 1 x10_1) 2 x23_2), aI cI h1 3 se, aI cI h2 7 (upd (upd (upd (upd (upd to 0 x38_3) 1 x51_4) 2 x68_5) 3 x86_6) 5 x103_7), aI cI h3 60 re, oK t1 kf] H := hP
  have hD : va_D A [oL h h1 h2 h3 (upd (upd f 1 x10_1) 2 x23_2), aI cI h1 3 se, aI cI h2 7 (upd (upd (upd (upd (upd to 0 x38_3) 1 x51_4) 2 x68_5) 3 x86_6) 5 x103_7), aI cI h3 60 re, oK t1 kf] := hD
  refine lv_aload_n hx hb dX1_take_104 rfl (lv_at hl 0 rfl) ?_
  refine ag_getX1 (v := .ref h2) hx hb hG hown hK hP 0 9 rfl (by decide) k_52 rfl dX1_take_105 ?_
  refine lv_bipush (v := 6) hx hb dX1_take_108 (by decide) ?_
  refine lv_dup2_11 hx hb dX1_take_110 rfl rfl ?_
  refine ag_ild (k := 6) (v := to 6) hx hb hK hP 2 rfl rfl (Nat.le_of_ble_eq_true rfl) (Nat.le_of_ble_eq_true rfl) rfl dX1_take_111 ?_
  refine lv_iconst (v := 0) hx hb dX1_take_112 (by decide) ?_
  refine lv_aload_n hx hb dX1_take_113 rfl (lv_at hl 1 rfl) ?_
  refine ag_getX4 (v := .int (kf 6)) hx hb hG hown hK hP 4 6 rfl (by decide) k_103 rfl dX1_take_114 ?_
  refine lv_ineg hx hb dX1_take_117 ?_
  refine va_mmax hx hb (hml.trans hl.1.symm) hown (hG _ k_236) (hG _ k_237) (hG _ k_14) (hG _ k_238) (Nat.le_of_ble_eq_true rfl) (Nat.le_of_ble_eq_true rfl) (Nat.zero_le _) (Nat.zero_le _) dX1_take_118 ?_
  refine W.eq (g2 := F0 m 121 ls [.int (ag_max 0 (-(kf 6))), .int (to 6), .int 6, .ref h2]) rfl ?_
  refine lv_iadd hx hb dX1_take_121 ?_
  refine ag_topn (v := xv122_8_X1_take to kf) rfl (fun x122_8 ex122_8 => ?_)
  refine ag_ist (k := 6) hx hb hK hP hD hS 2 rfl rfl (Nat.le_of_ble_eq_true rfl) (Nat.le_of_ble_eq_true rfl) dX1_take_122 (fun H locs hP hD hS => ?_)
  have hP : va_P D vwCl [oL h h1 h2 h3 (upd (upd f 1 x10_1) 2 x23_2), aI cI h1 3 se, aI cI h2 7 (upd (upd (upd (upd (upd (upd to 0 x38_3) 1 x51_4) 2 x68_5) 3 x86_6) 5 x103_7) 6 x122_8), aI cI h3 60 re, oK t1 kf] H := hP
  have hD : va_D A [oL h h1 h2 h3 (upd (upd f 1 x10_1) 2 x23_2), aI cI h1 3 se, aI cI h2 7 (upd (upd (upd (upd (upd (upd to 0 x38_3) 1 x51_4) 2 x68_5) 3 x86_6) 5 x103_7) 6 x122_8), aI cI h3 60 re, oK t1 kf] := hD
  revert hP; revert hD; revert hS; revert hl
  subst ex122_8
  subst ex103_7
  subst ex86_6
  subst ex68_5
  subst ex51_4
  subst ex38_3
  subst ex23_2
  subst ex10_1
  intro hl hS hD hP
  exact ag_vret [h, h1, h2, h3, t1] hx hb hr hlocks hP hS rfl rfl (by show _ = _; rw [show sw0_X1_take f kf = upd (upd f 1 (xv10_1_X1_take f kf)) 2 (xv23_2_X1_take f kf) from rfl, show sw2_X1_take to kf = upd (upd (upd (upd (upd (upd to 0 (xv38_3_X1_take to kf)) 1 (xv51_4_X1_take to kf)) 2 (xv68_5_X1_take to kf)) 3 (xv86_6_X1_take to kf)) 5 (xv103_7_X1_take to kf)) 6 (xv122_8_X1_take to kf) from rfl]) dX1_take_123
def sw3_X1_beginRecord (re : Nat → Int32) (p2 : Int32) (q : Nat) : Nat → Int32 := upd (upd (upd (upd (upd (upd re (q + 0) 0) (q + 1) 0) (q + 2) p2) (q + 3) p2) (q + 4) 0) (q + 5) 0
abbrev po_X1_beginRecord (cI cC cL : ClassId) (h h1 h2 h3 : Nat) (f se to re : Nat → Int32) (p1 : Int32) (p2 : Int32) (q : Nat) (hp : p1 = nI q ∧ q ≤ 54) : va_W → Prop := fun w' => [oL h h1 h2 h3 f, aI cI h1 3 se, aI cI h2 7 to, aI cI h3 60 (sw3_X1_beginRecord re p2 q)] = w'
set_option maxHeartbeats 4000000 in
set_option maxRecDepth 100000 in
theorem ct_X1_beginRecord (l : Launch) (D : va_G) (cI cC cL : ClassId) (h h1 h2 h3 : Nat) (f se to re : Nat → Int32) (p1 : Int32) (p2 : Int32) (q : Nat) (hp : p1 = nI q ∧ q ≤ 54) : ag_MV l yX1_beginRecord cX1_beginRecord 3 0 0 D cI cC cL [.ref h, .int p1, .int p2] [oL h h1 h2 h3 f, aI cI h1 3 se, aI cI h2 7 to, aI cI h3 60 re] (po_X1_beginRecord cI cC cL h h1 h2 h3 f se to re p1 p2 q hp) := by
  refine ag_MV.of (plainFor_of_name (by decide)) (Nat.le_of_ble_eq_true rfl) ?_
  intro p e s m below meth c hx hb hr hlocks hml hown hmn hG hK A hN hA H locs hP hD hS ls hl
  have hl : lv_has ls 3 [(0, .ref h), (1, .int p1), (2, .int p2)] := hl
  refine lv_aload_n hx hb dX1_beginRecord_0 rfl (lv_at hl 0 rfl) ?_
  refine ag_getX1 (v := .ref h3) hx hb hG hown hK hP 0 10 rfl (by decide) k_54 rfl dX1_beginRecord_1 ?_
  refine lv_iload_n hx hb dX1_beginRecord_4 rfl (lv_at hl 1 rfl) ?_
  refine lv_iconst (v := 0) hx hb dX1_beginRecord_5 (by decide) ?_
  refine lv_iadd hx hb dX1_beginRecord_6 ?_
  refine lv_iconst (v := 0) hx hb dX1_beginRecord_7 (by decide) ?_
  refine ag_ist (k := q + 0) hx hb hK hP hD hS 3 rfl ((congrArg (· + (0 : Int32)) hp.1).trans (nI_add _ 0)) (by have := hp.2; omega) (Nat.le_of_ble_eq_true rfl) dX1_beginRecord_8 (fun H locs hP hD hS => ?_)
  have hP : va_P D vwCl [oL h h1 h2 h3 f, aI cI h1 3 se, aI cI h2 7 to, aI cI h3 60 (upd re (q + 0) 0)] H := hP
  have hD : va_D A [oL h h1 h2 h3 f, aI cI h1 3 se, aI cI h2 7 to, aI cI h3 60 (upd re (q + 0) 0)] := hD
  refine lv_aload_n hx hb dX1_beginRecord_9 rfl (lv_at hl 0 rfl) ?_
  refine ag_getX1 (v := .ref h3) hx hb hG hown hK hP 0 10 rfl (by decide) k_54 rfl dX1_beginRecord_10 ?_
  refine lv_iload_n hx hb dX1_beginRecord_13 rfl (lv_at hl 1 rfl) ?_
  refine lv_iconst (v := 1) hx hb dX1_beginRecord_14 (by decide) ?_
  refine lv_iadd hx hb dX1_beginRecord_15 ?_
  refine lv_iconst (v := 0) hx hb dX1_beginRecord_16 (by decide) ?_
  refine ag_ist (k := q + 1) hx hb hK hP hD hS 3 rfl ((congrArg (· + (1 : Int32)) hp.1).trans (nI_add _ 1)) (by have := hp.2; omega) (Nat.le_of_ble_eq_true rfl) dX1_beginRecord_17 (fun H locs hP hD hS => ?_)
  have hP : va_P D vwCl [oL h h1 h2 h3 f, aI cI h1 3 se, aI cI h2 7 to, aI cI h3 60 (upd (upd re (q + 0) 0) (q + 1) 0)] H := hP
  have hD : va_D A [oL h h1 h2 h3 f, aI cI h1 3 se, aI cI h2 7 to, aI cI h3 60 (upd (upd re (q + 0) 0) (q + 1) 0)] := hD
  refine lv_aload_n hx hb dX1_beginRecord_18 rfl (lv_at hl 0 rfl) ?_
  refine ag_getX1 (v := .ref h3) hx hb hG hown hK hP 0 10 rfl (by decide) k_54 rfl dX1_beginRecord_19 ?_
  refine lv_iload_n hx hb dX1_beginRecord_22 rfl (lv_at hl 1 rfl) ?_
  refine lv_iconst (v := 2) hx hb dX1_beginRecord_23 (by decide) ?_
  refine lv_iadd hx hb dX1_beginRecord_24 ?_
  refine lv_iload_n hx hb dX1_beginRecord_25 rfl (lv_at hl 2 rfl) ?_
  refine ag_ist (k := q + 2) hx hb hK hP hD hS 3 rfl ((congrArg (· + (2 : Int32)) hp.1).trans (nI_add _ 2)) (by have := hp.2; omega) (Nat.le_of_ble_eq_true rfl) dX1_beginRecord_26 (fun H locs hP hD hS => ?_)
  have hP : va_P D vwCl [oL h h1 h2 h3 f, aI cI h1 3 se, aI cI h2 7 to, aI cI h3 60 (upd (upd (upd re (q + 0) 0) (q + 1) 0) (q + 2) p2)] H := hP
  have hD : va_D A [oL h h1 h2 h3 f, aI cI h1 3 se, aI cI h2 7 to, aI cI h3 60 (upd (upd (upd re (q + 0) 0) (q + 1) 0) (q + 2) p2)] := hD
  refine lv_aload_n hx hb dX1_beginRecord_27 rfl (lv_at hl 0 rfl) ?_
  refine ag_getX1 (v := .ref h3) hx hb hG hown hK hP 0 10 rfl (by decide) k_54 rfl dX1_beginRecord_28 ?_
  refine lv_iload_n hx hb dX1_beginRecord_31 rfl (lv_at hl 1 rfl) ?_
  refine lv_iconst (v := 3) hx hb dX1_beginRecord_32 (by decide) ?_
  refine lv_iadd hx hb dX1_beginRecord_33 ?_
  refine lv_iload_n hx hb dX1_beginRecord_34 rfl (lv_at hl 2 rfl) ?_
  refine ag_ist (k := q + 3) hx hb hK hP hD hS 3 rfl ((congrArg (· + (3 : Int32)) hp.1).trans (nI_add _ 3)) (by have := hp.2; omega) (Nat.le_of_ble_eq_true rfl) dX1_beginRecord_35 (fun H locs hP hD hS => ?_)
  have hP : va_P D vwCl [oL h h1 h2 h3 f, aI cI h1 3 se, aI cI h2 7 to, aI cI h3 60 (upd (upd (upd (upd re (q + 0) 0) (q + 1) 0) (q + 2) p2) (q + 3) p2)] H := hP
  have hD : va_D A [oL h h1 h2 h3 f, aI cI h1 3 se, aI cI h2 7 to, aI cI h3 60 (upd (upd (upd (upd re (q + 0) 0) (q + 1) 0) (q + 2) p2) (q + 3) p2)] := hD
  refine lv_aload_n hx hb dX1_beginRecord_36 rfl (lv_at hl 0 rfl) ?_
  refine ag_getX1 (v := .ref h3) hx hb hG hown hK hP 0 10 rfl (by decide) k_54 rfl dX1_beginRecord_37 ?_
  refine lv_iload_n hx hb dX1_beginRecord_40 rfl (lv_at hl 1 rfl) ?_
  refine lv_iconst (v := 4) hx hb dX1_beginRecord_41 (by decide) ?_
  refine lv_iadd hx hb dX1_beginRecord_42 ?_
  refine lv_iconst (v := 0) hx hb dX1_beginRecord_43 (by decide) ?_
  refine ag_ist (k := q + 4) hx hb hK hP hD hS 3 rfl ((congrArg (· + (4 : Int32)) hp.1).trans (nI_add _ 4)) (by have := hp.2; omega) (Nat.le_of_ble_eq_true rfl) dX1_beginRecord_44 (fun H locs hP hD hS => ?_)
  have hP : va_P D vwCl [oL h h1 h2 h3 f, aI cI h1 3 se, aI cI h2 7 to, aI cI h3 60 (upd (upd (upd (upd (upd re (q + 0) 0) (q + 1) 0) (q + 2) p2) (q + 3) p2) (q + 4) 0)] H := hP
  have hD : va_D A [oL h h1 h2 h3 f, aI cI h1 3 se, aI cI h2 7 to, aI cI h3 60 (upd (upd (upd (upd (upd re (q + 0) 0) (q + 1) 0) (q + 2) p2) (q + 3) p2) (q + 4) 0)] := hD
  refine lv_aload_n hx hb dX1_beginRecord_45 rfl (lv_at hl 0 rfl) ?_
  refine ag_getX1 (v := .ref h3) hx hb hG hown hK hP 0 10 rfl (by decide) k_54 rfl dX1_beginRecord_46 ?_
  refine lv_iload_n hx hb dX1_beginRecord_49 rfl (lv_at hl 1 rfl) ?_
  refine lv_iconst (v := 5) hx hb dX1_beginRecord_50 (by decide) ?_
  refine lv_iadd hx hb dX1_beginRecord_51 ?_
  refine lv_iconst (v := 0) hx hb dX1_beginRecord_52 (by decide) ?_
  refine ag_ist (k := q + 5) hx hb hK hP hD hS 3 rfl ((congrArg (· + (5 : Int32)) hp.1).trans (nI_add _ 5)) (by have := hp.2; omega) (Nat.le_of_ble_eq_true rfl) dX1_beginRecord_53 (fun H locs hP hD hS => ?_)
  have hP : va_P D vwCl [oL h h1 h2 h3 f, aI cI h1 3 se, aI cI h2 7 to, aI cI h3 60 (upd (upd (upd (upd (upd (upd re (q + 0) 0) (q + 1) 0) (q + 2) p2) (q + 3) p2) (q + 4) 0) (q + 5) 0)] H := hP
  have hD : va_D A [oL h h1 h2 h3 f, aI cI h1 3 se, aI cI h2 7 to, aI cI h3 60 (upd (upd (upd (upd (upd (upd re (q + 0) 0) (q + 1) 0) (q + 2) p2) (q + 3) p2) (q + 4) 0) (q + 5) 0)] := hD
  exact ag_vret [h, h1, h2, h3] hx hb hr hlocks hP hS rfl rfl (by show _ = _; rw [show sw3_X1_beginRecord re p2 q = upd (upd (upd (upd (upd (upd re (q + 0) 0) (q + 1) 0) (q + 2) p2) (q + 3) p2) (q + 4) 0) (q + 5) 0 from rfl]) dX1_beginRecord_54
def gv31_1_X1_enterRecord (f : Nat → Int32) (re : Nat → Int32) : Nat → Int32 := sw3_X1_beginRecord re (sr_X1_level f) (rs (f 0 / 144))
def w34_3_X1_enterRecord (f : Nat → Int32) (re : Nat → Int32) : Nat → Int32 := if ((f 0) - (f 0) / 144 * 144) = 0 then (gv31_1_X1_enterRecord f re) else re
def xv48_2_X1_enterRecord (f : Nat → Int32) (re : Nat → Int32) (kf : Nat → Int32) : Int32 := ((w34_3_X1_enterRecord f re) ((rs (f 0 / 144)) + 0)) + (kf 4)
def xv63_3_X1_enterRecord (f : Nat → Int32) (re : Nat → Int32) (kf : Nat → Int32) : Int32 := ((w34_3_X1_enterRecord f re) ((rs (f 0 / 144)) + 1)) + (kf 5)
def xv83_4_X1_enterRecord (f : Nat → Int32) (re : Nat → Int32) : Int32 := ag_max ((w34_3_X1_enterRecord f re) ((rs (f 0 / 144)) + 2)) (sr_X1_level f)
def xv103_5_X1_enterRecord (f : Nat → Int32) (re : Nat → Int32) : Int32 := ag_min ((w34_3_X1_enterRecord f re) ((rs (f 0 / 144)) + 3)) (sr_X1_level f)
def xv122_6_X1_enterRecord (f : Nat → Int32) (re : Nat → Int32) (kf : Nat → Int32) : Int32 := ((w34_3_X1_enterRecord f re) ((rs (f 0 / 144)) + 4)) + (ag_max 0 (kf 3))
def xv142_7_X1_enterRecord (f : Nat → Int32) (re : Nat → Int32) (kf : Nat → Int32) : Int32 := ((w34_3_X1_enterRecord f re) ((rs (f 0 / 144)) + 5)) + (ag_max 0 (-(kf 3)))
def sw3_X1_enterRecord (f : Nat → Int32) (re : Nat → Int32) (kf : Nat → Int32) : Nat → Int32 := upd (upd (upd (upd (upd (upd (w34_3_X1_enterRecord f re) ((rs (f 0 / 144)) + 0) (xv48_2_X1_enterRecord f re kf)) ((rs (f 0 / 144)) + 1) (xv63_3_X1_enterRecord f re kf)) ((rs (f 0 / 144)) + 2) (xv83_4_X1_enterRecord f re)) ((rs (f 0 / 144)) + 3) (xv103_5_X1_enterRecord f re)) ((rs (f 0 / 144)) + 4) (xv122_6_X1_enterRecord f re kf)) ((rs (f 0 / 144)) + 5) (xv142_7_X1_enterRecord f re kf)
abbrev po_X1_enterRecord (cI cC cL : ClassId) (h t1 h1 h2 h3 : Nat) (f se to re kf : Nat → Int32) : va_W → Prop := fun w' => [oL h h1 h2 h3 f, aI cI h1 3 se, aI cI h2 7 to, aI cI h3 60 (sw3_X1_enterRecord f re kf), oK t1 kf] = w'
set_option maxHeartbeats 4000000 in
set_option maxRecDepth 100000 in
theorem ct_X1_enterRecord (l : Launch) (D : va_G) (cI cC cL : ClassId) (h t1 h1 h2 h3 : Nat) (f se to re kf : Nat → Int32) : ag_MV l yX1_enterRecord cX1_enterRecord 4 2 42 D cI cC cL [.ref h, .ref t1] [oL h h1 h2 h3 f, aI cI h1 3 se, aI cI h2 7 to, aI cI h3 60 re, oK t1 kf] (po_X1_enterRecord cI cC cL h t1 h1 h2 h3 f se to re kf) := by
  refine ag_MV.of (plainFor_of_name (by decide)) (Nat.le_of_ble_eq_true rfl) ?_
  intro p e s m below meth c hx hb hr hlocks hml hown hmn hG hK A hN hA H locs hP hD hS ls hl
  have hl : lv_has ls 4 [(0, .ref h), (1, .ref t1)] := hl
  refine lv_aload_n hx hb dX1_enterRecord_0 rfl (lv_at hl 0 rfl) ?_
  refine ag_getX1 (v := .int (f 0)) hx hb hG hown hK hP 0 0 rfl (by decide) k_30 rfl dX1_enterRecord_1 ?_
  refine lv_sipush (v := 144) hx hb dX1_enterRecord_4 (by decide) ?_
  refine lv_idiv hx hb dX1_enterRecord_7 (by decide) ?_
  refine ag_callNi (As := [.int ((f 0) / 144)]) (rest := []) hx hb hml hown hG hK hN hA hP hD hS hl (ct_X5_recordStart l D cI cC cL ((f 0) / 144)) fX5_recordStart hN.1.2.2.2.2.2.2.2.1 ag_cut_0 rfl (Nat.le_of_ble_eq_true rfl) ⟨Nat.le_of_ble_eq_true rfl, Nat.le_of_ble_eq_true rfl⟩ ⟨Nat.zero_le _, Nat.zero_le _⟩ dX1_enterRecord_8 (fun r w1 H locs hw hP hD hS => ?_)
  obtain ⟨rfl, hw⟩ := hw
  subst hw
  have hP : va_P D vwCl [oL h h1 h2 h3 f, aI cI h1 3 se, aI cI h2 7 to, aI cI h3 60 re, oK t1 kf] H := hP
  have hD : va_D A [oL h h1 h2 h3 f, aI cI h1 3 se, aI cI h2 7 to, aI cI h3 60 re, oK t1 kf] := hD
  refine lv_istore_n (lv' := [(2, .int (sr_X5_recordStart ((f 0) / 144))), (0, .ref h), (1, .ref t1)]) hx hb dX1_enterRecord_11 rfl hl (by decide) rfl (fun ls hl => ?_)
  refine lv_aload_n hx hb dX1_enterRecord_12 rfl (lv_at hl 1 rfl) ?_
  refine ag_callVi (As := []) (rest := []) hx hb hml hown hG hK hN hA hP hD hS hl (ct_X1_level l D cI cC cL h h1 h2 h3 f se to re) fX1_level k_214 (ag_cut_1 [] [oK t1 kf] rfl) (q0 := 0) rfl rfl rfl rfl (Nat.le_of_ble_eq_true rfl) ⟨Nat.le_of_ble_eq_true rfl, Nat.le_of_ble_eq_true rfl⟩ ⟨Nat.zero_le _, Nat.zero_le _⟩ dX1_enterRecord_13 (fun r w1 H locs hw hP hD hS => ?_)
  obtain ⟨rfl, hw⟩ := hw
  subst hw
  have hP : va_P D vwCl [oL h h1 h2 h3 f, aI cI h1 3 se, aI cI h2 7 to, aI cI h3 60 re, oK t1 kf] H := hP
  have hD : va_D A [oL h h1 h2 h3 f, aI cI h1 3 se, aI cI h2 7 to, aI cI h3 60 re, oK t1 kf] := hD
  refine lv_istore_n (lv' := [(3, .int (sr_X1_level f)), (2, .int (sr_X5_recordStart ((f 0) / 144))), (0, .ref h), (1, .ref t1)]) hx hb dX1_enterRecord_16 rfl hl (by decide) rfl (fun ls hl => ?_)
  refine lv_aload_n hx hb dX1_enterRecord_17 rfl (lv_at hl 2 rfl) ?_
  refine ag_getX1 (v := .int (f 0)) hx hb hG hown hK hP 0 0 rfl (by decide) k_30 rfl dX1_enterRecord_18 ?_
  refine lv_sipush (v := 144) hx hb dX1_enterRecord_21 (by decide) ?_
  refine lv_irem hx hb dX1_enterRecord_24 (by decide) ?_
  have J34 : ∀ (H : Heap) (locs : List Loc), va_P D vwCl [oL h h1 h2 h3 f, aI cI h1 3 se, aI cI h2 7 to, aI cI h3 60 (w34_3_X1_enterRecord f re), oK t1 kf] H → va_D A [oL h h1 h2 h3 f, aI cI h1 3 se, aI cI h2 7 to, aI cI h3 60 (w34_3_X1_enterRecord f re), oK t1 kf] → va_S A s.heap H locs → ∀ (ls : Array Slot), lv_has ls 4 [(0, .ref h), (1, .ref t1), (2, .int (sr_X5_recordStart ((f 0) / 144))), (3, .int (sr_X1_level f))] → W p l e (ag_rm 2 42) s m ([.ref h, .ref t1] : List Value).toArray below meth c H locs 0 0 (MQ below (va_Qv (po_X1_enterRecord cI cC cL h t1 h1 h2 h3 f se to re kf) (ag_Out D [oL h h1 h2 h3 f, aI cI h1 3 se, aI cI h2 7 to, aI cI h3 60 re, oK t1 kf]) A) ([.ref h, .ref t1] : List Value).toArray s 0 0 A) (F0 m 34 ls []) := by
    intro H locs hP hD hS ls hl
    refine lv_aload_n hx hb dX1_enterRecord_34 rfl (lv_at hl 0 rfl) ?_
    refine ag_getX1 (v := .ref h3) hx hb hG hown hK hP 0 10 rfl (by decide) k_54 rfl dX1_enterRecord_35 ?_
    refine lv_iload_n hx hb dX1_enterRecord_38 rfl (lv_at hl 2 rfl) ?_
    refine lv_iconst (v := 0) hx hb dX1_enterRecord_39 (by decide) ?_
    refine lv_iadd hx hb dX1_enterRecord_40 ?_
    refine lv_dup2_11 hx hb dX1_enterRecord_41 rfl rfl ?_
    refine ag_ild (k := (rs (f 0 / 144)) + 0) (v := (w34_3_X1_enterRecord f re) ((rs (f 0 / 144)) + 0)) hx hb hK hP 3 rfl ((congrArg (· + (0 : Int32)) (rs_eq (f 0 / 144))).trans (nI_add _ 0)) (by have := rs_le (f 0 / 144); omega) (Nat.le_of_ble_eq_true rfl) rfl dX1_enterRecord_42 ?_
    refine lv_aload_n hx hb dX1_enterRecord_43 rfl (lv_at hl 1 rfl) ?_
    refine ag_getX4 (v := .int (kf 4)) hx hb hG hown hK hP 4 4 rfl (by decide) k_97 rfl dX1_enterRecord_44 ?_
    refine lv_iadd hx hb dX1_enterRecord_47 ?_
    refine ag_topn (v := xv48_2_X1_enterRecord f re kf) rfl (fun x48_2 ex48_2 => ?_)
    refine ag_ist (k := (rs (f 0 / 144)) + 0) hx hb hK hP hD hS 3 rfl ((congrArg (· + (0 : Int32)) (rs_eq (f 0 / 144))).trans (nI_add _ 0)) (by have := rs_le (f 0 / 144); omega) (Nat.le_of_ble_eq_true rfl) dX1_enterRecord_48 (fun H locs hP hD hS => ?_)
    have hP : va_P D vwCl [oL h h1 h2 h3 f, aI cI h1 3 se, aI cI h2 7 to, aI cI h3 60 (upd (w34_3_X1_enterRecord f re) ((rs (f 0 / 144)) + 0) x48_2), oK t1 kf] H := hP
    have hD : va_D A [oL h h1 h2 h3 f, aI cI h1 3 se, aI cI h2 7 to, aI cI h3 60 (upd (w34_3_X1_enterRecord f re) ((rs (f 0 / 144)) + 0) x48_2), oK t1 kf] := hD
    refine lv_aload_n hx hb dX1_enterRecord_49 rfl (lv_at hl 0 rfl) ?_
    refine ag_getX1 (v := .ref h3) hx hb hG hown hK hP 0 10 rfl (by decide) k_54 rfl dX1_enterRecord_50 ?_
    refine lv_iload_n hx hb dX1_enterRecord_53 rfl (lv_at hl 2 rfl) ?_
    refine lv_iconst (v := 1) hx hb dX1_enterRecord_54 (by decide) ?_
    refine lv_iadd hx hb dX1_enterRecord_55 ?_
    refine lv_dup2_11 hx hb dX1_enterRecord_56 rfl rfl ?_
    refine ag_ild (k := (rs (f 0 / 144)) + 1) (v := (w34_3_X1_enterRecord f re) ((rs (f 0 / 144)) + 1)) hx hb hK hP 3 rfl ((congrArg (· + (1 : Int32)) (rs_eq (f 0 / 144))).trans (nI_add _ 1)) (by have := rs_le (f 0 / 144); omega) (Nat.le_of_ble_eq_true rfl) (Eq.trans (pk_un (by omega)) rfl) dX1_enterRecord_57 ?_
    refine lv_aload_n hx hb dX1_enterRecord_58 rfl (lv_at hl 1 rfl) ?_
    refine ag_getX4 (v := .int (kf 5)) hx hb hG hown hK hP 4 5 rfl (by decide) k_100 rfl dX1_enterRecord_59 ?_
    refine lv_iadd hx hb dX1_enterRecord_62 ?_
    refine ag_topn (v := xv63_3_X1_enterRecord f re kf) rfl (fun x63_3 ex63_3 => ?_)
    refine ag_ist (k := (rs (f 0 / 144)) + 1) hx hb hK hP hD hS 3 rfl ((congrArg (· + (1 : Int32)) (rs_eq (f 0 / 144))).trans (nI_add _ 1)) (by have := rs_le (f 0 / 144); omega) (Nat.le_of_ble_eq_true rfl) dX1_enterRecord_63 (fun H locs hP hD hS => ?_)
    have hP : va_P D vwCl [oL h h1 h2 h3 f, aI cI h1 3 se, aI cI h2 7 to, aI cI h3 60 (upd (upd (w34_3_X1_enterRecord f re) ((rs (f 0 / 144)) + 0) x48_2) ((rs (f 0 / 144)) + 1) x63_3), oK t1 kf] H := hP
    have hD : va_D A [oL h h1 h2 h3 f, aI cI h1 3 se, aI cI h2 7 to, aI cI h3 60 (upd (upd (w34_3_X1_enterRecord f re) ((rs (f 0 / 144)) + 0) x48_2) ((rs (f 0 / 144)) + 1) x63_3), oK t1 kf] := hD
    refine lv_aload_n hx hb dX1_enterRecord_64 rfl (lv_at hl 0 rfl) ?_
    refine ag_getX1 (v := .ref h3) hx hb hG hown hK hP 0 10 rfl (by decide) k_54 rfl dX1_enterRecord_65 ?_
    refine lv_iload_n hx hb dX1_enterRecord_68 rfl (lv_at hl 2 rfl) ?_
    refine lv_iconst (v := 2) hx hb dX1_enterRecord_69 (by decide) ?_
    refine lv_iadd hx hb dX1_enterRecord_70 ?_
    refine lv_aload_n hx hb dX1_enterRecord_71 rfl (lv_at hl 0 rfl) ?_
    refine ag_getX1 (v := .ref h3) hx hb hG hown hK hP 0 10 rfl (by decide) k_54 rfl dX1_enterRecord_72 ?_
    refine lv_iload_n hx hb dX1_enterRecord_75 rfl (lv_at hl 2 rfl) ?_
    refine lv_iconst (v := 2) hx hb dX1_enterRecord_76 (by decide) ?_
    refine lv_iadd hx hb dX1_enterRecord_77 ?_
    refine ag_ild (k := (rs (f 0 / 144)) + 2) (v := (w34_3_X1_enterRecord f re) ((rs (f 0 / 144)) + 2)) hx hb hK hP 3 rfl ((congrArg (· + (2 : Int32)) (rs_eq (f 0 / 144))).trans (nI_add _ 2)) (by have := rs_le (f 0 / 144); omega) (Nat.le_of_ble_eq_true rfl) (Eq.trans (pk_un (by omega)) (Eq.trans (pk_un (by omega)) rfl)) dX1_enterRecord_78 ?_
    refine lv_iload_n hx hb dX1_enterRecord_79 rfl (lv_at hl 3 rfl) ?_
    refine va_mmax hx hb (hml.trans hl.1.symm) hown (hG _ k_236) (hG _ k_237) (hG _ k_14) (hG _ k_238) (Nat.le_of_ble_eq_true rfl) (Nat.le_of_ble_eq_true rfl) (Nat.zero_le _) (Nat.zero_le _) dX1_enterRecord_80 ?_
    refine W.eq (g2 := F0 m 83 ls [.int (ag_max ((w34_3_X1_enterRecord f re) ((rs (f 0 / 144)) + 2)) (sr_X1_level f)), .int ((sr_X5_recordStart ((f 0) / 144)) + 2), .ref h3]) rfl ?_
    refine ag_topn (v := xv83_4_X1_enterRecord f re) rfl (fun x83_4 ex83_4 => ?_)
    refine ag_ist (k := (rs (f 0 / 144)) + 2) hx hb hK hP hD hS 3 rfl ((congrArg (· + (2 : Int32)) (rs_eq (f 0 / 144))).trans (nI_add _ 2)) (by have := rs_le (f 0 / 144); omega) (Nat.le_of_ble_eq_true rfl) dX1_enterRecord_83 (fun H locs hP hD hS => ?_)
    have hP : va_P D vwCl [oL h h1 h2 h3 f, aI cI h1 3 se, aI cI h2 7 to, aI cI h3 60 (upd (upd (upd (w34_3_X1_enterRecord f re) ((rs (f 0 / 144)) + 0) x48_2) ((rs (f 0 / 144)) + 1) x63_3) ((rs (f 0 / 144)) + 2) x83_4), oK t1 kf] H := hP
    have hD : va_D A [oL h h1 h2 h3 f, aI cI h1 3 se, aI cI h2 7 to, aI cI h3 60 (upd (upd (upd (w34_3_X1_enterRecord f re) ((rs (f 0 / 144)) + 0) x48_2) ((rs (f 0 / 144)) + 1) x63_3) ((rs (f 0 / 144)) + 2) x83_4), oK t1 kf] := hD
    refine lv_aload_n hx hb dX1_enterRecord_84 rfl (lv_at hl 0 rfl) ?_
    refine ag_getX1 (v := .ref h3) hx hb hG hown hK hP 0 10 rfl (by decide) k_54 rfl dX1_enterRecord_85 ?_
    refine lv_iload_n hx hb dX1_enterRecord_88 rfl (lv_at hl 2 rfl) ?_
    refine lv_iconst (v := 3) hx hb dX1_enterRecord_89 (by decide) ?_
    refine lv_iadd hx hb dX1_enterRecord_90 ?_
    refine lv_aload_n hx hb dX1_enterRecord_91 rfl (lv_at hl 0 rfl) ?_
    refine ag_getX1 (v := .ref h3) hx hb hG hown hK hP 0 10 rfl (by decide) k_54 rfl dX1_enterRecord_92 ?_
    refine lv_iload_n hx hb dX1_enterRecord_95 rfl (lv_at hl 2 rfl) ?_
    refine lv_iconst (v := 3) hx hb dX1_enterRecord_96 (by decide) ?_
    refine lv_iadd hx hb dX1_enterRecord_97 ?_
    refine ag_ild (k := (rs (f 0 / 144)) + 3) (v := (w34_3_X1_enterRecord f re) ((rs (f 0 / 144)) + 3)) hx hb hK hP 3 rfl ((congrArg (· + (3 : Int32)) (rs_eq (f 0 / 144))).trans (nI_add _ 3)) (by have := rs_le (f 0 / 144); omega) (Nat.le_of_ble_eq_true rfl) (Eq.trans (pk_un (by omega)) (Eq.trans (pk_un (by omega)) (Eq.trans (pk_un (by omega)) rfl))) dX1_enterRecord_98 ?_
    refine lv_iload_n hx hb dX1_enterRecord_99 rfl (lv_at hl 3 rfl) ?_
    refine va_mmin hx hb (hml.trans hl.1.symm) hown (hG _ k_379) (hG _ k_356) (hG _ k_14) (hG _ k_357) (Nat.le_of_ble_eq_true rfl) (Nat.le_of_ble_eq_true rfl) (Nat.zero_le _) (Nat.zero_le _) dX1_enterRecord_100 ?_
    refine W.eq (g2 := F0 m 103 ls [.int (ag_min ((w34_3_X1_enterRecord f re) ((rs (f 0 / 144)) + 3)) (sr_X1_level f)), .int ((sr_X5_recordStart ((f 0) / 144)) + 3), .ref h3]) rfl ?_
    refine ag_topn (v := xv103_5_X1_enterRecord f re) rfl (fun x103_5 ex103_5 => ?_)
    refine ag_ist (k := (rs (f 0 / 144)) + 3) hx hb hK hP hD hS 3 rfl ((congrArg (· + (3 : Int32)) (rs_eq (f 0 / 144))).trans (nI_add _ 3)) (by have := rs_le (f 0 / 144); omega) (Nat.le_of_ble_eq_true rfl) dX1_enterRecord_103 (fun H locs hP hD hS => ?_)
    have hP : va_P D vwCl [oL h h1 h2 h3 f, aI cI h1 3 se, aI cI h2 7 to, aI cI h3 60 (upd (upd (upd (upd (w34_3_X1_enterRecord f re) ((rs (f 0 / 144)) + 0) x48_2) ((rs (f 0 / 144)) + 1) x63_3) ((rs (f 0 / 144)) + 2) x83_4) ((rs (f 0 / 144)) + 3) x103_5), oK t1 kf] H := hP
    have hD : va_D A [oL h h1 h2 h3 f, aI cI h1 3 se, aI cI h2 7 to, aI cI h3 60 (upd (upd (upd (upd (w34_3_X1_enterRecord f re) ((rs (f 0 / 144)) + 0) x48_2) ((rs (f 0 / 144)) + 1) x63_3) ((rs (f 0 / 144)) + 2) x83_4) ((rs (f 0 / 144)) + 3) x103_5), oK t1 kf] := hD
    refine lv_aload_n hx hb dX1_enterRecord_104 rfl (lv_at hl 0 rfl) ?_
    refine ag_getX1 (v := .ref h3) hx hb hG hown hK hP 0 10 rfl (by decide) k_54 rfl dX1_enterRecord_105 ?_
    refine lv_iload_n hx hb dX1_enterRecord_108 rfl (lv_at hl 2 rfl) ?_
    refine lv_iconst (v := 4) hx hb dX1_enterRecord_109 (by decide) ?_
    refine lv_iadd hx hb dX1_enterRecord_110 ?_
    refine lv_dup2_11 hx hb dX1_enterRecord_111 rfl rfl ?_
    refine ag_ild (k := (rs (f 0 / 144)) + 4) (v := (w34_3_X1_enterRecord f re) ((rs (f 0 / 144)) + 4)) hx hb hK hP 3 rfl ((congrArg (· + (4 : Int32)) (rs_eq (f 0 / 144))).trans (nI_add _ 4)) (by have := rs_le (f 0 / 144); omega) (Nat.le_of_ble_eq_true rfl) (Eq.trans (pk_un (by omega)) (Eq.trans (pk_un (by omega)) (Eq.trans (pk_un (by omega)) (Eq.trans (pk_un (by omega)) rfl)))) dX1_enterRecord_112 ?_
    refine lv_iconst (v := 0) hx hb dX1_enterRecord_113 (by decide) ?_
    refine lv_aload_n hx hb dX1_enterRecord_114 rfl (lv_at hl 1 rfl) ?_
    refine ag_getX4 (v := .int (kf 3)) hx hb hG hown hK hP 4 3 rfl (by decide) k_94 rfl dX1_enterRecord_115 ?_
    refine va_mmax hx hb (hml.trans hl.1.symm) hown (hG _ k_236) (hG _ k_237) (hG _ k_14) (hG _ k_238) (Nat.le_of_ble_eq_true rfl) (Nat.le_of_ble_eq_true rfl) (Nat.zero_le _) (Nat.zero_le _) dX1_enterRecord_118 ?_
    refine W.eq (g2 := F0 m 121 ls [.int (ag_max 0 (kf 3)), .int ((w34_3_X1_enterRecord f re) ((rs (f 0 / 144)) + 4)), .int ((sr_X5_recordStart ((f 0) / 144)) + 4), .ref h3]) rfl ?_
    refine lv_iadd hx hb dX1_enterRecord_121 ?_
    refine ag_topn (v := xv122_6_X1_enterRecord f re kf) rfl (fun x122_6 ex122_6 => ?_)
    refine ag_ist (k := (rs (f 0 / 144)) + 4) hx hb hK hP hD hS 3 rfl ((congrArg (· + (4 : Int32)) (rs_eq (f 0 / 144))).trans (nI_add _ 4)) (by have := rs_le (f 0 / 144); omega) (Nat.le_of_ble_eq_true rfl) dX1_enterRecord_122 (fun H locs hP hD hS => ?_)
    have hP : va_P D vwCl [oL h h1 h2 h3 f, aI cI h1 3 se, aI cI h2 7 to, aI cI h3 60 (upd (upd (upd (upd (upd (w34_3_X1_enterRecord f re) ((rs (f 0 / 144)) + 0) x48_2) ((rs (f 0 / 144)) + 1) x63_3) ((rs (f 0 / 144)) + 2) x83_4) ((rs (f 0 / 144)) + 3) x103_5) ((rs (f 0 / 144)) + 4) x122_6), oK t1 kf] H := hP
    have hD : va_D A [oL h h1 h2 h3 f, aI cI h1 3 se, aI cI h2 7 to, aI cI h3 60 (upd (upd (upd (upd (upd (w34_3_X1_enterRecord f re) ((rs (f 0 / 144)) + 0) x48_2) ((rs (f 0 / 144)) + 1) x63_3) ((rs (f 0 / 144)) + 2) x83_4) ((rs (f 0 / 144)) + 3) x103_5) ((rs (f 0 / 144)) + 4) x122_6), oK t1 kf] := hD
    refine lv_aload_n hx hb dX1_enterRecord_123 rfl (lv_at hl 0 rfl) ?_
    refine ag_getX1 (v := .ref h3) hx hb hG hown hK hP 0 10 rfl (by decide) k_54 rfl dX1_enterRecord_124 ?_
    refine lv_iload_n hx hb dX1_enterRecord_127 rfl (lv_at hl 2 rfl) ?_
    refine lv_iconst (v := 5) hx hb dX1_enterRecord_128 (by decide) ?_
    refine lv_iadd hx hb dX1_enterRecord_129 ?_
    refine lv_dup2_11 hx hb dX1_enterRecord_130 rfl rfl ?_
    refine ag_ild (k := (rs (f 0 / 144)) + 5) (v := (w34_3_X1_enterRecord f re) ((rs (f 0 / 144)) + 5)) hx hb hK hP 3 rfl ((congrArg (· + (5 : Int32)) (rs_eq (f 0 / 144))).trans (nI_add _ 5)) (by have := rs_le (f 0 / 144); omega) (Nat.le_of_ble_eq_true rfl) (Eq.trans (pk_un (by omega)) (Eq.trans (pk_un (by omega)) (Eq.trans (pk_un (by omega)) (Eq.trans (pk_un (by omega)) (Eq.trans (pk_un (by omega)) rfl))))) dX1_enterRecord_131 ?_
    refine lv_iconst (v := 0) hx hb dX1_enterRecord_132 (by decide) ?_
    refine lv_aload_n hx hb dX1_enterRecord_133 rfl (lv_at hl 1 rfl) ?_
    refine ag_getX4 (v := .int (kf 3)) hx hb hG hown hK hP 4 3 rfl (by decide) k_94 rfl dX1_enterRecord_134 ?_
    refine lv_ineg hx hb dX1_enterRecord_137 ?_
    refine va_mmax hx hb (hml.trans hl.1.symm) hown (hG _ k_236) (hG _ k_237) (hG _ k_14) (hG _ k_238) (Nat.le_of_ble_eq_true rfl) (Nat.le_of_ble_eq_true rfl) (Nat.zero_le _) (Nat.zero_le _) dX1_enterRecord_138 ?_
    refine W.eq (g2 := F0 m 141 ls [.int (ag_max 0 (-(kf 3))), .int ((w34_3_X1_enterRecord f re) ((rs (f 0 / 144)) + 5)), .int ((sr_X5_recordStart ((f 0) / 144)) + 5), .ref h3]) rfl ?_
    refine lv_iadd hx hb dX1_enterRecord_141 ?_
    refine ag_topn (v := xv142_7_X1_enterRecord f re kf) rfl (fun x142_7 ex142_7 => ?_)
    refine ag_ist (k := (rs (f 0 / 144)) + 5) hx hb hK hP hD hS 3 rfl ((congrArg (· + (5 : Int32)) (rs_eq (f 0 / 144))).trans (nI_add _ 5)) (by have := rs_le (f 0 / 144); omega) (Nat.le_of_ble_eq_true rfl) dX1_enterRecord_142 (fun H locs hP hD hS => ?_)
    have hP : va_P D vwCl [oL h h1 h2 h3 f, aI cI h1 3 se, aI cI h2 7 to, aI cI h3 60 (upd (upd (upd (upd (upd (upd (w34_3_X1_enterRecord f re) ((rs (f 0 / 144)) + 0) x48_2) ((rs (f 0 / 144)) + 1) x63_3) ((rs (f 0 / 144)) + 2) x83_4) ((rs (f 0 / 144)) + 3) x103_5) ((rs (f 0 / 144)) + 4) x122_6) ((rs (f 0 / 144)) + 5) x142_7), oK t1 kf] H := hP
    have hD : va_D A [oL h h1 h2 h3 f, aI cI h1 3 se, aI cI h2 7 to, aI cI h3 60 (upd (upd (upd (upd (upd (upd (w34_3_X1_enterRecord f re) ((rs (f 0 / 144)) + 0) x48_2) ((rs (f 0 / 144)) + 1) x63_3) ((rs (f 0 / 144)) + 2) x83_4) ((rs (f 0 / 144)) + 3) x103_5) ((rs (f 0 / 144)) + 4) x122_6) ((rs (f 0 / 144)) + 5) x142_7), oK t1 kf] := hD
    revert hP; revert hD; revert hS; revert hl
    subst ex142_7
    subst ex122_6
    subst ex103_5
    subst ex83_4
    subst ex63_3
    subst ex48_2
    intro hl hS hD hP
    exact ag_vret [h, h1, h2, h3, t1] hx hb hr hlocks hP hS rfl rfl (by show _ = _; rw [show sw3_X1_enterRecord f re kf = upd (upd (upd (upd (upd (upd (w34_3_X1_enterRecord f re) ((rs (f 0 / 144)) + 0) (xv48_2_X1_enterRecord f re kf)) ((rs (f 0 / 144)) + 1) (xv63_3_X1_enterRecord f re kf)) ((rs (f 0 / 144)) + 2) (xv83_4_X1_enterRecord f re)) ((rs (f 0 / 144)) + 3) (xv103_5_X1_enterRecord f re)) ((rs (f 0 / 144)) + 4) (xv122_6_X1_enterRecord f re kf)) ((rs (f 0 / 144)) + 5) (xv142_7_X1_enterRecord f re kf) from rfl]) dX1_enterRecord_143
  refine lv_if_ne (tgt := 34) hx hb dX1_enterRecord_25 (by decide) (fun c_25 => ?_) (fun c_25 => ?_)
  · simp only [w34_3_X1_enterRecord, if_neg c_25] at J34
    exact J34 H locs hP hD hS _ (lv_sub hl [2, 3, 1, 0] rfl)
  · refine lv_aload_n hx hb dX1_enterRecord_28 rfl (lv_at hl 2 rfl) ?_
    refine lv_iload_n hx hb dX1_enterRecord_29 rfl (lv_at hl 1 rfl) ?_
    refine lv_iload_n hx hb dX1_enterRecord_30 rfl (lv_at hl 0 rfl) ?_
    refine ag_callVv (As := [.int (sr_X5_recordStart ((f 0) / 144)), .int (sr_X1_level f)]) (rest := []) hx hb hml hown hG hK hN hA hP hD hS hl (ct_X1_beginRecord l D cI cC cL h h1 h2 h3 f se to re (sr_X5_recordStart ((f 0) / 144)) (sr_X1_level f) (rs (f 0 / 144)) (⟨rs_eq (f 0 / 144), rs_le (f 0 / 144)⟩)) fX1_beginRecord k_375 (ag_cut_1 [] [oK t1 kf] rfl) (q0 := 0) rfl rfl rfl rfl (Nat.le_of_ble_eq_true rfl) ⟨Nat.le_of_ble_eq_true rfl, Nat.le_of_ble_eq_true rfl⟩ ⟨Nat.zero_le _, Nat.zero_le _⟩ dX1_enterRecord_31 (fun w1 H locs hw hP hD hS => ?_)
    have hw : _ = w1 := hw
    generalize eg31_1 : sw3_X1_beginRecord re (sr_X1_level f) (rs (f 0 / 144)) = g31_1 at hw
    replace eg31_1 : gv31_1_X1_enterRecord f re = g31_1 := (by rw [← eg31_1]; rfl)
    subst hw
    have hP : va_P D vwCl [oL h h1 h2 h3 f, aI cI h1 3 se, aI cI h2 7 to, aI cI h3 60 g31_1, oK t1 kf] H := hP
    have hD : va_D A [oL h h1 h2 h3 f, aI cI h1 3 se, aI cI h2 7 to, aI cI h3 60 g31_1, oK t1 kf] := hD
    revert hP; revert hD; revert hS; revert hl
    subst eg31_1
    intro hl hS hD hP
    simp only [w34_3_X1_enterRecord, if_pos c_25] at J34
    exact J34 H locs hP hD hS _ (lv_sub hl [2, 3, 1, 0] rfl)
def sr_X4_siltOf (kf : Nat → Int32) (f : Nat → Int32) (se : Nat → Int32) : Int32 := if (kf 3) ≤ 0 then if (-(se 2)) < (kf 3) then 0 else -(ag_min ((-(kf 3)) / 20) (f 2)) else ag_min ((kf 3) / 50) (20000 - (f 2))
abbrev po_X4_siltOf (cI cC cL : ClassId) (t1 h h1 h2 h3 : Nat) (kf f se to re : Nat → Int32) : Int32 → va_W → Prop := fun r w' => sr_X4_siltOf kf f se = r ∧ [oK t1 kf, oL h h1 h2 h3 f, aI cI h1 3 se, aI cI h2 7 to, aI cI h3 60 re] = w'
set_option maxHeartbeats 4000000 in
set_option maxRecDepth 100000 in
theorem ct_X4_siltOf (l : Launch) (D : va_G) (cI cC cL : ClassId) (t1 h h1 h2 h3 : Nat) (kf f se to re : Nat → Int32) : ag_MI l yX4_siltOf cX4_siltOf 2 .int 1 13 D cI cC cL [.ref t1, .ref h] [oK t1 kf, oL h h1 h2 h3 f, aI cI h1 3 se, aI cI h2 7 to, aI cI h3 60 re] (po_X4_siltOf cI cC cL t1 h h1 h2 h3 kf f se to re) := by
  refine ag_MI.of (plainFor_of_name (by decide)) (Nat.le_of_ble_eq_true rfl) ?_
  intro p e s m below meth c hx hb hr hlocks hml hown hmn hG hK A hN hA H locs hP hD hS ls hl
  have hl : lv_has ls 2 [(0, .ref t1), (1, .ref h)] := hl
  refine lv_aload_n hx hb dX4_siltOf_0 rfl (lv_at hl 0 rfl) ?_
  refine ag_getX4 (v := .int (kf 3)) hx hb hG hown hK hP 0 3 rfl (by decide) k_92 rfl dX4_siltOf_1 ?_
  refine lv_if_le (tgt := 26) hx hb dX4_siltOf_4 (by decide) (fun c_4 => ?_) (fun c_4 => ?_)
  · refine lv_aload_n hx hb dX4_siltOf_26 rfl (lv_at hl 0 rfl) ?_
    refine ag_getX4 (v := .int (kf 3)) hx hb hG hown hK hP 0 3 rfl (by decide) k_92 rfl dX4_siltOf_27 ?_
    refine lv_aload_n hx hb dX4_siltOf_30 rfl (lv_at hl 1 rfl) ?_
    refine ag_getX1 (v := .ref h1) hx hb hG hown hK hP 1 8 rfl (by decide) k_50 rfl dX4_siltOf_31 ?_
    refine lv_iconst (v := 2) hx hb dX4_siltOf_34 (by decide) ?_
    refine ag_ild (k := 2) (v := se 2) hx hb hK hP 2 rfl rfl (Nat.le_of_ble_eq_true rfl) (Nat.le_of_ble_eq_true rfl) rfl dX4_siltOf_35 ?_
    refine lv_ineg hx hb dX4_siltOf_36 ?_
    refine lv_icmp_gt (tgt := 57) hx hb dX4_siltOf_37 (by decide) (fun c_37 => ?_) (fun c_37 => ?_)
    · refine lv_iconst (v := 0) hx hb dX4_siltOf_57 (by decide) ?_
      exact ag_iret [t1, h, h1, h2, h3] hx hb hr rfl hlocks hP hS rfl rfl ⟨(by unfold sr_X4_siltOf; rw [if_pos c_4, if_pos c_37]), rfl⟩ dX4_siltOf_58
    · refine lv_aload_n hx hb dX4_siltOf_40 rfl (lv_at hl 0 rfl) ?_
      refine ag_getX4 (v := .int (kf 3)) hx hb hG hown hK hP 0 3 rfl (by decide) k_92 rfl dX4_siltOf_41 ?_
      refine lv_ineg hx hb dX4_siltOf_44 ?_
      refine lv_bipush (v := 20) hx hb dX4_siltOf_45 (by decide) ?_
      refine lv_idiv hx hb dX4_siltOf_47 (by decide) ?_
      refine lv_aload_n hx hb dX4_siltOf_48 rfl (lv_at hl 1 rfl) ?_
      refine ag_getX1 (v := .int (f 2)) hx hb hG hown hK hP 1 2 rfl (by decide) k_36 rfl dX4_siltOf_49 ?_
      refine va_mmin hx hb (hml.trans hl.1.symm) hown (hG _ k_355) (hG _ k_356) (hG _ k_14) (hG _ k_357) (Nat.le_of_ble_eq_true rfl) (Nat.le_of_ble_eq_true rfl) (Nat.zero_le _) (Nat.zero_le _) dX4_siltOf_52 ?_
      refine W.eq (g2 := F0 m 55 ls [.int (ag_min ((-(kf 3)) / 20) (f 2))]) rfl ?_
      refine lv_ineg hx hb dX4_siltOf_55 ?_
      exact ag_iret [t1, h, h1, h2, h3] hx hb hr rfl hlocks hP hS rfl rfl ⟨(by unfold sr_X4_siltOf; rw [if_pos c_4, if_neg c_37]), rfl⟩ dX4_siltOf_56
  · refine lv_aload_n hx hb dX4_siltOf_7 rfl (lv_at hl 0 rfl) ?_
    refine ag_getX4 (v := .int (kf 3)) hx hb hG hown hK hP 0 3 rfl (by decide) k_92 rfl dX4_siltOf_8 ?_
    refine lv_bipush (v := 50) hx hb dX4_siltOf_11 (by decide) ?_
    refine lv_idiv hx hb dX4_siltOf_13 (by decide) ?_
    refine lv_sipush (v := 20000) hx hb dX4_siltOf_14 (by decide) ?_
    refine lv_aload_n hx hb dX4_siltOf_17 rfl (lv_at hl 1 rfl) ?_
    refine ag_getX1 (v := .int (f 2)) hx hb hG hown hK hP 1 2 rfl (by decide) k_36 rfl dX4_siltOf_18 ?_
    refine lv_isub hx hb dX4_siltOf_21 ?_
    refine va_mmin hx hb (hml.trans hl.1.symm) hown (hG _ k_355) (hG _ k_356) (hG _ k_14) (hG _ k_357) (Nat.le_of_ble_eq_true rfl) (Nat.le_of_ble_eq_true rfl) (Nat.zero_le _) (Nat.zero_le _) dX4_siltOf_22 ?_
    refine W.eq (g2 := F0 m 25 ls [.int (ag_min ((kf 3) / 50) (20000 - (f 2)))]) rfl ?_
    exact ag_iret [t1, h, h1, h2, h3] hx hb hr rfl hlocks hP hS rfl rfl ⟨(by unfold sr_X4_siltOf; rw [if_neg c_4]), rfl⟩ dX4_siltOf_25
def j29_0_X4_foresee (f : Nat → Int32) (p1 : Int32) : Int32 := if (sr_X1_isBirdHour f) = 0 then ((f 3) * p1) * 2 else 0
def xv29_1_X4_foresee (f : Nat → Int32) (p1 : Int32) : Int32 := j29_0_X4_foresee f p1
def j53_0_X4_foresee (f : Nat → Int32) (se : Nat → Int32) (p1 : Int32) : Int32 := if (ag_abs p1) < (se 0) then 0 else (f 4) * p1
def xv53_2_X4_foresee (f : Nat → Int32) (se : Nat → Int32) (p1 : Int32) : Int32 := j53_0_X4_foresee f se p1
def j80_0_X4_foresee (f : Nat → Int32) (se : Nat → Int32) (p1 : Int32) : Int32 := if (sr_X1_isBirdHour f) = 0 then if (se 1) < (ag_abs p1) then 0 else f 5 else 0
def xv80_3_X4_foresee (f : Nat → Int32) (se : Nat → Int32) (p1 : Int32) : Int32 := j80_0_X4_foresee f se p1
def xv96_4_X4_foresee (f : Nat → Int32) (se : Nat → Int32) (p1 : Int32) : Int32 := ((ag_abs (xv53_2_X4_foresee f se p1)) * (ag_abs p1)) / 100
def xv115_5_X4_foresee (f : Nat → Int32) (se : Nat → Int32) (p1 : Int32) : Int32 := ((ag_abs (xv80_3_X4_foresee f se p1)) * (20 + (ag_abs p1))) / 100
def xv155_6_X4_foresee (f : Nat → Int32) (se : Nat → Int32) (p1 : Int32) : Int32 := ag_max (-(f 1)) (ag_min (80000 - (f 1)) (((xv29_1_X4_foresee f p1) + (xv53_2_X4_foresee f se p1)) + (xv80_3_X4_foresee f se p1)))
def xv164_7_X4_foresee (kf : Nat → Int32) (f : Nat → Int32) (se : Nat → Int32) (p1 : Int32) : Int32 := sr_X4_siltOf (upd (upd (upd (upd (upd (upd kf 0 (xv29_1_X4_foresee f p1)) 1 (xv53_2_X4_foresee f se p1)) 2 (xv80_3_X4_foresee f se p1)) 4 (xv96_4_X4_foresee f se p1)) 5 (xv115_5_X4_foresee f se p1)) 3 (xv155_6_X4_foresee f se p1)) f se
def sw0_X4_foresee (kf : Nat → Int32) (f : Nat → Int32) (se : Nat → Int32) (p1 : Int32) : Nat → Int32 := upd (upd (upd (upd (upd (upd (upd kf 0 (xv29_1_X4_foresee f p1)) 1 (xv53_2_X4_foresee f se p1)) 2 (xv80_3_X4_foresee f se p1)) 4 (xv96_4_X4_foresee f se p1)) 5 (xv115_5_X4_foresee f se p1)) 3 (xv155_6_X4_foresee f se p1)) 6 (xv164_7_X4_foresee kf f se p1)
abbrev po_X4_foresee (cI cC cL : ClassId) (t1 h h1 h2 h3 : Nat) (kf f se to re : Nat → Int32) (p1 : Int32) : va_W → Prop := fun w' => [oK t1 (sw0_X4_foresee kf f se p1), oL h h1 h2 h3 f, aI cI h1 3 se, aI cI h2 7 to, aI cI h3 60 re] = w'
set_option maxHeartbeats 4000000 in
set_option maxRecDepth 100000 in
theorem ct_X4_foresee (l : Launch) (D : va_G) (cI cC cL : ClassId) (t1 h h1 h2 h3 : Nat) (kf f se to re : Nat → Int32) (p1 : Int32) : ag_MV l yX4_foresee cX4_foresee 6 2 34 D cI cC cL [.ref t1, .ref h, .int p1] [oK t1 kf, oL h h1 h2 h3 f, aI cI h1 3 se, aI cI h2 7 to, aI cI h3 60 re] (po_X4_foresee cI cC cL t1 h h1 h2 h3 kf f se to re p1) := by
  refine ag_MV.of (plainFor_of_name (by decide)) (Nat.le_of_ble_eq_true rfl) ?_
  intro p e s m below meth c hx hb hr hlocks hml hown hmn hG hK A hN hA H locs hP hD hS ls hl
  have hl : lv_has ls 6 [(0, .ref t1), (1, .ref h), (2, .int p1)] := hl
  refine lv_iload_n hx hb dX4_foresee_0 rfl (lv_at hl 2 rfl) ?_
  refine va_mabs hx hb (hml.trans hl.1.symm) hown (hG _ k_350) (hG _ k_351) (hG _ k_14) (hG _ k_352) (Nat.le_of_ble_eq_true rfl) (Nat.le_of_ble_eq_true rfl) (Nat.zero_le _) (Nat.zero_le _) dX4_foresee_1 ?_
  refine W.eq (g2 := F0 m 4 ls [.int (ag_abs p1)]) rfl ?_
  refine lv_istore_n (lv' := [(3, .int (ag_abs p1)), (0, .ref t1), (1, .ref h), (2, .int p1)]) hx hb dX4_foresee_4 rfl hl (by decide) rfl (fun ls hl => ?_)
  refine lv_aload_n hx hb dX4_foresee_5 rfl (lv_at hl 2 rfl) ?_
  refine ag_callVi (As := []) (rest := []) hx hb hml hown hG hK hN hA hP hD hS hl (ct_X1_isBirdHour l D cI cC cL h h1 h2 h3 f se to re) fX1_isBirdHour k_353 (ag_cut_1 [oK t1 kf] [] rfl) (q0 := 1) rfl rfl rfl rfl (Nat.le_of_ble_eq_true rfl) ⟨Nat.le_of_ble_eq_true rfl, Nat.le_of_ble_eq_true rfl⟩ ⟨Nat.zero_le _, Nat.zero_le _⟩ dX4_foresee_6 (fun r w1 H locs hw hP hD hS => ?_)
  obtain ⟨rfl, hw⟩ := hw
  subst hw
  have hP : va_P D vwCl [oK t1 kf, oL h h1 h2 h3 f, aI cI h1 3 se, aI cI h2 7 to, aI cI h3 60 re] H := hP
  have hD : va_D A [oK t1 kf, oL h h1 h2 h3 f, aI cI h1 3 se, aI cI h2 7 to, aI cI h3 60 re] := hD
  refine lv_istore (lv' := [(4, .int (sr_X1_isBirdHour f)), (3, .int (ag_abs p1)), (0, .ref t1), (1, .ref h), (2, .int p1)]) hx hb dX4_foresee_9 hl (by decide) rfl (fun ls hl => ?_)
  refine lv_aload_n hx hb dX4_foresee_11 rfl (lv_at hl 2 rfl) ?_
  refine lv_iload hx hb dX4_foresee_12 (lv_at hl 0 rfl) ?_
  have J29 : ∀ (ls : Array Slot), lv_has ls 6 [(0, .ref t1), (1, .ref h), (2, .int p1), (3, .int (ag_abs p1)), (4, .int (sr_X1_isBirdHour f))] → W p l e (ag_rm 2 34) s m ([.ref t1, .ref h, .int p1] : List Value).toArray below meth c H locs 0 0 (MQ below (va_Qv (po_X4_foresee cI cC cL t1 h h1 h2 h3 kf f se to re p1) (ag_Out D [oK t1 kf, oL h h1 h2 h3 f, aI cI h1 3 se, aI cI h2 7 to, aI cI h3 60 re]) A) ([.ref t1, .ref h, .int p1] : List Value).toArray s 0 0 A) (F0 m 29 ls [.int (j29_0_X4_foresee f p1), .ref t1]) := by
    intro ls hl
    refine ag_topn (v := xv29_1_X4_foresee f p1) rfl (fun x29_1 ex29_1 => ?_)
    refine ag_putX4 hx hb hG hown hK hP hD hS 0 0 rfl (by decide) k_86 (by decide) rfl rfl (Nat.le_of_ble_eq_true rfl) dX4_foresee_29 (fun H locs hP hD hS => ?_)
    have hP : va_P D vwCl [oK t1 (upd kf 0 x29_1), oL h h1 h2 h3 f, aI cI h1 3 se, aI cI h2 7 to, aI cI h3 60 re] H := hP
    have hD : va_D A [oK t1 (upd kf 0 x29_1), oL h h1 h2 h3 f, aI cI h1 3 se, aI cI h2 7 to, aI cI h3 60 re] := hD
    refine lv_aload_n hx hb dX4_foresee_32 rfl (lv_at hl 0 rfl) ?_
    refine lv_iload_n hx hb dX4_foresee_33 rfl (lv_at hl 3 rfl) ?_
    refine lv_aload_n hx hb dX4_foresee_34 rfl (lv_at hl 1 rfl) ?_
    refine ag_getX1 (v := .ref h1) hx hb hG hown hK hP 1 8 rfl (by decide) k_50 rfl dX4_foresee_35 ?_
    refine lv_iconst (v := 0) hx hb dX4_foresee_38 (by decide) ?_
    refine ag_ild (k := 0) (v := se 0) hx hb hK hP 2 rfl rfl (Nat.le_of_ble_eq_true rfl) (Nat.le_of_ble_eq_true rfl) rfl dX4_foresee_39 ?_
    have J53 : ∀ (ls : Array Slot), lv_has ls 6 [(0, .ref t1), (1, .ref h), (2, .int p1), (3, .int (ag_abs p1)), (4, .int (sr_X1_isBirdHour f))] → W p l e (ag_rm 2 34) s m ([.ref t1, .ref h, .int p1] : List Value).toArray below meth c H locs 0 0 (MQ below (va_Qv (po_X4_foresee cI cC cL t1 h h1 h2 h3 kf f se to re p1) (ag_Out D [oK t1 kf, oL h h1 h2 h3 f, aI cI h1 3 se, aI cI h2 7 to, aI cI h3 60 re]) A) ([.ref t1, .ref h, .int p1] : List Value).toArray s 0 0 A) (F0 m 53 ls [.int (j53_0_X4_foresee f se p1), .ref t1]) := by
      intro ls hl
      refine ag_topn (v := xv53_2_X4_foresee f se p1) rfl (fun x53_2 ex53_2 => ?_)
      refine ag_putX4 hx hb hG hown hK hP hD hS 0 1 rfl (by decide) k_88 (by decide) rfl rfl (Nat.le_of_ble_eq_true rfl) dX4_foresee_53 (fun H locs hP hD hS => ?_)
      have hP : va_P D vwCl [oK t1 (upd (upd kf 0 x29_1) 1 x53_2), oL h h1 h2 h3 f, aI cI h1 3 se, aI cI h2 7 to, aI cI h3 60 re] H := hP
      have hD : va_D A [oK t1 (upd (upd kf 0 x29_1) 1 x53_2), oL h h1 h2 h3 f, aI cI h1 3 se, aI cI h2 7 to, aI cI h3 60 re] := hD
      refine lv_aload_n hx hb dX4_foresee_56 rfl (lv_at hl 0 rfl) ?_
      refine lv_iload hx hb dX4_foresee_57 (lv_at hl 4 rfl) ?_
      have J80 : ∀ (ls : Array Slot), lv_has ls 6 [(0, .ref t1), (1, .ref h), (2, .int p1), (3, .int (ag_abs p1)), (4, .int (sr_X1_isBirdHour f))] → W p l e (ag_rm 2 34) s m ([.ref t1, .ref h, .int p1] : List Value).toArray below meth c H locs 0 0 (MQ below (va_Qv (po_X4_foresee cI cC cL t1 h h1 h2 h3 kf f se to re p1) (ag_Out D [oK t1 kf, oL h h1 h2 h3 f, aI cI h1 3 se, aI cI h2 7 to, aI cI h3 60 re]) A) ([.ref t1, .ref h, .int p1] : List Value).toArray s 0 0 A) (F0 m 80 ls [.int (j80_0_X4_foresee f se p1), .ref t1]) := by
        intro ls hl
        refine ag_topn (v := xv80_3_X4_foresee f se p1) rfl (fun x80_3 ex80_3 => ?_)
        refine ag_putX4 hx hb hG hown hK hP hD hS 0 2 rfl (by decide) k_90 (by decide) rfl rfl (Nat.le_of_ble_eq_true rfl) dX4_foresee_80 (fun H locs hP hD hS => ?_)
        have hP : va_P D vwCl [oK t1 (upd (upd (upd kf 0 x29_1) 1 x53_2) 2 x80_3), oL h h1 h2 h3 f, aI cI h1 3 se, aI cI h2 7 to, aI cI h3 60 re] H := hP
        have hD : va_D A [oK t1 (upd (upd (upd kf 0 x29_1) 1 x53_2) 2 x80_3), oL h h1 h2 h3 f, aI cI h1 3 se, aI cI h2 7 to, aI cI h3 60 re] := hD
        refine lv_aload_n hx hb dX4_foresee_83 rfl (lv_at hl 0 rfl) ?_
        refine lv_aload_n hx hb dX4_foresee_84 rfl (lv_at hl 0 rfl) ?_
        refine ag_getX4 (v := .int x53_2) hx hb hG hown hK hP 0 1 rfl (by decide) k_88 rfl dX4_foresee_85 ?_
        refine va_mabs hx hb (hml.trans hl.1.symm) hown (hG _ k_350) (hG _ k_351) (hG _ k_14) (hG _ k_352) (Nat.le_of_ble_eq_true rfl) (Nat.le_of_ble_eq_true rfl) (Nat.zero_le _) (Nat.zero_le _) dX4_foresee_88 ?_
        refine W.eq (g2 := F0 m 91 ls [.int (ag_abs x53_2), .ref t1]) rfl ?_
        refine lv_iload_n hx hb dX4_foresee_91 rfl (lv_at hl 3 rfl) ?_
        refine lv_imul hx hb dX4_foresee_92 ?_
        refine lv_bipush (v := 100) hx hb dX4_foresee_93 (by decide) ?_
        refine lv_idiv hx hb dX4_foresee_95 (by decide) ?_
        refine ag_topn (v := xv96_4_X4_foresee f se p1) (by rw [← ex53_2]; rfl) (fun x96_4 ex96_4 => ?_)
        refine ag_putX4 hx hb hG hown hK hP hD hS 0 4 rfl (by decide) k_95 (by decide) rfl rfl (Nat.le_of_ble_eq_true rfl) dX4_foresee_96 (fun H locs hP hD hS => ?_)
        have hP : va_P D vwCl [oK t1 (upd (upd (upd (upd kf 0 x29_1) 1 x53_2) 2 x80_3) 4 x96_4), oL h h1 h2 h3 f, aI cI h1 3 se, aI cI h2 7 to, aI cI h3 60 re] H := hP
        have hD : va_D A [oK t1 (upd (upd (upd (upd kf 0 x29_1) 1 x53_2) 2 x80_3) 4 x96_4), oL h h1 h2 h3 f, aI cI h1 3 se, aI cI h2 7 to, aI cI h3 60 re] := hD
        refine lv_aload_n hx hb dX4_foresee_99 rfl (lv_at hl 0 rfl) ?_
        refine lv_aload_n hx hb dX4_foresee_100 rfl (lv_at hl 0 rfl) ?_
        refine ag_getX4 (v := .int x80_3) hx hb hG hown hK hP 0 2 rfl (by decide) k_90 rfl dX4_foresee_101 ?_
        refine va_mabs hx hb (hml.trans hl.1.symm) hown (hG _ k_350) (hG _ k_351) (hG _ k_14) (hG _ k_352) (Nat.le_of_ble_eq_true rfl) (Nat.le_of_ble_eq_true rfl) (Nat.zero_le _) (Nat.zero_le _) dX4_foresee_104 ?_
        refine W.eq (g2 := F0 m 107 ls [.int (ag_abs x80_3), .ref t1]) rfl ?_
        refine lv_bipush (v := 20) hx hb dX4_foresee_107 (by decide) ?_
        refine lv_iload_n hx hb dX4_foresee_109 rfl (lv_at hl 3 rfl) ?_
        refine lv_iadd hx hb dX4_foresee_110 ?_
        refine lv_imul hx hb dX4_foresee_111 ?_
        refine lv_bipush (v := 100) hx hb dX4_foresee_112 (by decide) ?_
        refine lv_idiv hx hb dX4_foresee_114 (by decide) ?_
        refine ag_topn (v := xv115_5_X4_foresee f se p1) (by rw [← ex80_3]; rfl) (fun x115_5 ex115_5 => ?_)
        refine ag_putX4 hx hb hG hown hK hP hD hS 0 5 rfl (by decide) k_98 (by decide) rfl rfl (Nat.le_of_ble_eq_true rfl) dX4_foresee_115 (fun H locs hP hD hS => ?_)
        have hP : va_P D vwCl [oK t1 (upd (upd (upd (upd (upd kf 0 x29_1) 1 x53_2) 2 x80_3) 4 x96_4) 5 x115_5), oL h h1 h2 h3 f, aI cI h1 3 se, aI cI h2 7 to, aI cI h3 60 re] H := hP
        have hD : va_D A [oK t1 (upd (upd (upd (upd (upd kf 0 x29_1) 1 x53_2) 2 x80_3) 4 x96_4) 5 x115_5), oL h h1 h2 h3 f, aI cI h1 3 se, aI cI h2 7 to, aI cI h3 60 re] := hD
        refine lv_aload_n hx hb dX4_foresee_118 rfl (lv_at hl 0 rfl) ?_
        refine ag_getX4 (v := .int x29_1) hx hb hG hown hK hP 0 0 rfl (by decide) k_86 rfl dX4_foresee_119 ?_
        refine lv_aload_n hx hb dX4_foresee_122 rfl (lv_at hl 0 rfl) ?_
        refine ag_getX4 (v := .int x53_2) hx hb hG hown hK hP 0 1 rfl (by decide) k_88 rfl dX4_foresee_123 ?_
        refine lv_iadd hx hb dX4_foresee_126 ?_
        refine lv_aload_n hx hb dX4_foresee_127 rfl (lv_at hl 0 rfl) ?_
        refine ag_getX4 (v := .int x80_3) hx hb hG hown hK hP 0 2 rfl (by decide) k_90 rfl dX4_foresee_128 ?_
        refine lv_iadd hx hb dX4_foresee_131 ?_
        refine lv_istore (lv' := [(5, .int ((x29_1 + x53_2) + x80_3)), (0, .ref t1), (1, .ref h), (2, .int p1), (3, .int (ag_abs p1)), (4, .int (sr_X1_isBirdHour f))]) hx hb dX4_foresee_132 hl (by decide) rfl (fun ls hl => ?_)
        refine lv_aload_n hx hb dX4_foresee_134 rfl (lv_at hl 1 rfl) ?_
        refine lv_aload_n hx hb dX4_foresee_135 rfl (lv_at hl 2 rfl) ?_
        refine ag_getX1 (v := .int (f 1)) hx hb hG hown hK hP 1 1 rfl (by decide) k_33 rfl dX4_foresee_136 ?_
        refine lv_ineg hx hb dX4_foresee_139 ?_
        refine lv_ldc (v := 80000) hx hb hown (hG _ k_354) dX4_foresee_140 ?_
        refine lv_aload_n hx hb dX4_foresee_142 rfl (lv_at hl 2 rfl) ?_
        refine ag_getX1 (v := .int (f 1)) hx hb hG hown hK hP 1 1 rfl (by decide) k_33 rfl dX4_foresee_143 ?_
        refine lv_isub hx hb dX4_foresee_146 ?_
        refine lv_iload hx hb dX4_foresee_147 (lv_at hl 0 rfl) ?_
        refine va_mmin hx hb (hml.trans hl.1.symm) hown (hG _ k_355) (hG _ k_356) (hG _ k_14) (hG _ k_357) (Nat.le_of_ble_eq_true rfl) (Nat.le_of_ble_eq_true rfl) (Nat.zero_le _) (Nat.zero_le _) dX4_foresee_149 ?_
        refine W.eq (g2 := F0 m 152 ls [.int (ag_min (80000 - (f 1)) ((x29_1 + x53_2) + x80_3)), .int (-(f 1)), .ref t1]) rfl ?_
        refine va_mmax hx hb (hml.trans hl.1.symm) hown (hG _ k_358) (hG _ k_237) (hG _ k_14) (hG _ k_238) (Nat.le_of_ble_eq_true rfl) (Nat.le_of_ble_eq_true rfl) (Nat.zero_le _) (Nat.zero_le _) dX4_foresee_152 ?_
        refine W.eq (g2 := F0 m 155 ls [.int (ag_max (-(f 1)) (ag_min (80000 - (f 1)) ((x29_1 + x53_2) + x80_3))), .ref t1]) rfl ?_
        refine ag_topn (v := xv155_6_X4_foresee f se p1) (by rw [← ex29_1, ← ex53_2, ← ex80_3]; rfl) (fun x155_6 ex155_6 => ?_)
        refine ag_putX4 hx hb hG hown hK hP hD hS 0 3 rfl (by decide) k_92 (by decide) rfl rfl (Nat.le_of_ble_eq_true rfl) dX4_foresee_155 (fun H locs hP hD hS => ?_)
        have hP : va_P D vwCl [oK t1 (upd (upd (upd (upd (upd (upd kf 0 x29_1) 1 x53_2) 2 x80_3) 4 x96_4) 5 x115_5) 3 x155_6), oL h h1 h2 h3 f, aI cI h1 3 se, aI cI h2 7 to, aI cI h3 60 re] H := hP
        have hD : va_D A [oK t1 (upd (upd (upd (upd (upd (upd kf 0 x29_1) 1 x53_2) 2 x80_3) 4 x96_4) 5 x115_5) 3 x155_6), oL h h1 h2 h3 f, aI cI h1 3 se, aI cI h2 7 to, aI cI h3 60 re] := hD
        refine lv_aload_n hx hb dX4_foresee_158 rfl (lv_at hl 1 rfl) ?_
        refine lv_aload_n hx hb dX4_foresee_159 rfl (lv_at hl 1 rfl) ?_
        refine lv_aload_n hx hb dX4_foresee_160 rfl (lv_at hl 2 rfl) ?_
        refine ag_callVi (As := [.ref h]) (rest := [.ref t1]) hx hb hml hown hG hK hN hA hP hD hS hl (ct_X4_siltOf l D cI cC cL t1 h h1 h2 h3 (upd (upd (upd (upd (upd (upd kf 0 x29_1) 1 x53_2) 2 x80_3) 4 x96_4) 5 x115_5) 3 x155_6) f se to re) fX4_siltOf k_359 ag_cut_all (q0 := 0) rfl rfl rfl rfl (Nat.le_of_ble_eq_true rfl) ⟨Nat.le_of_ble_eq_true rfl, Nat.le_of_ble_eq_true rfl⟩ ⟨Nat.zero_le _, Nat.zero_le _⟩ dX4_foresee_161 (fun r w1 H locs hw hP hD hS => ?_)
        obtain ⟨rfl, hw⟩ := hw
        subst hw
        have hP : va_P D vwCl [oK t1 (upd (upd (upd (upd (upd (upd kf 0 x29_1) 1 x53_2) 2 x80_3) 4 x96_4) 5 x115_5) 3 x155_6), oL h h1 h2 h3 f, aI cI h1 3 se, aI cI h2 7 to, aI cI h3 60 re] H := hP
        have hD : va_D A [oK t1 (upd (upd (upd (upd (upd (upd kf 0 x29_1) 1 x53_2) 2 x80_3) 4 x96_4) 5 x115_5) 3 x155_6), oL h h1 h2 h3 f, aI cI h1 3 se, aI cI h2 7 to, aI cI h3 60 re] := hD
        refine ag_topn (v := xv164_7_X4_foresee kf f se p1) (by rw [← ex29_1, ← ex53_2, ← ex80_3, ← ex96_4, ← ex115_5, ← ex155_6]; rfl) (fun x164_7 ex164_7 => ?_)
        refine ag_putX4 hx hb hG hown hK hP hD hS 0 6 rfl (by decide) k_101 (by decide) rfl rfl (Nat.le_of_ble_eq_true rfl) dX4_foresee_164 (fun H locs hP hD hS => ?_)
        have hP : va_P D vwCl [oK t1 (upd (upd (upd (upd (upd (upd (upd kf 0 x29_1) 1 x53_2) 2 x80_3) 4 x96_4) 5 x115_5) 3 x155_6) 6 x164_7), oL h h1 h2 h3 f, aI cI h1 3 se, aI cI h2 7 to, aI cI h3 60 re] H := hP
        have hD : va_D A [oK t1 (upd (upd (upd (upd (upd (upd (upd kf 0 x29_1) 1 x53_2) 2 x80_3) 4 x96_4) 5 x115_5) 3 x155_6) 6 x164_7), oL h h1 h2 h3 f, aI cI h1 3 se, aI cI h2 7 to, aI cI h3 60 re] := hD
        revert hP; revert hD; revert hS; revert hl
        subst ex164_7
        subst ex155_6
        subst ex115_5
        subst ex96_4
        subst ex80_3
        subst ex53_2
        subst ex29_1
        intro hl hS hD hP
        exact ag_vret [t1, h, h1, h2, h3] hx hb hr hlocks hP hS rfl rfl (by show _ = _; rw [show sw0_X4_foresee kf f se p1 = upd (upd (upd (upd (upd (upd (upd kf 0 (xv29_1_X4_foresee f p1)) 1 (xv53_2_X4_foresee f se p1)) 2 (xv80_3_X4_foresee f se p1)) 4 (xv96_4_X4_foresee f se p1)) 5 (xv115_5_X4_foresee f se p1)) 3 (xv155_6_X4_foresee f se p1)) 6 (xv164_7_X4_foresee kf f se p1) from rfl]) dX4_foresee_167
      refine lv_if_ne (tgt := 79) hx hb dX4_foresee_59 (by decide) (fun c_59 => ?_) (fun c_59 => ?_)
      · refine lv_iconst (v := 0) hx hb dX4_foresee_79 (by decide) ?_
        revert hP; revert hD; revert hS; revert hl
        subst ex53_2
        subst ex29_1
        intro hl hS hD hP
        simp only [j80_0_X4_foresee, if_neg c_59] at J80
        exact J80 _ (lv_sub hl [0, 1, 2, 3, 4] rfl)
      · refine lv_iload_n hx hb dX4_foresee_62 rfl (lv_at hl 3 rfl) ?_
        refine lv_aload_n hx hb dX4_foresee_63 rfl (lv_at hl 1 rfl) ?_
        refine ag_getX1 (v := .ref h1) hx hb hG hown hK hP 1 8 rfl (by decide) k_50 rfl dX4_foresee_64 ?_
        refine lv_iconst (v := 1) hx hb dX4_foresee_67 (by decide) ?_
        refine ag_ild (k := 1) (v := se 1) hx hb hK hP 2 rfl rfl (Nat.le_of_ble_eq_true rfl) (Nat.le_of_ble_eq_true rfl) rfl dX4_foresee_68 ?_
        refine lv_icmp_gt (tgt := 79) hx hb dX4_foresee_69 (by decide) (fun c_69 => ?_) (fun c_69 => ?_)
        · refine lv_iconst (v := 0) hx hb dX4_foresee_79 (by decide) ?_
          revert hP; revert hD; revert hS; revert hl
          subst ex53_2
          subst ex29_1
          intro hl hS hD hP
          simp only [j80_0_X4_foresee, if_pos c_59, if_pos c_69] at J80
          exact J80 _ (lv_sub hl [0, 1, 2, 3, 4] rfl)
        · refine lv_aload_n hx hb dX4_foresee_72 rfl (lv_at hl 1 rfl) ?_
          refine ag_getX1 (v := .int (f 5)) hx hb hG hown hK hP 1 5 rfl (by decide) k_45 rfl dX4_foresee_73 ?_
          refine lv_goto (tgt := 80) hx hb dX4_foresee_76 (by decide) ?_
          revert hP; revert hD; revert hS; revert hl
          subst ex53_2
          subst ex29_1
          intro hl hS hD hP
          simp only [j80_0_X4_foresee, if_pos c_59, if_neg c_69] at J80
          exact J80 _ (lv_sub hl [0, 1, 2, 3, 4] rfl)
    refine lv_icmp_lt (tgt := 52) hx hb dX4_foresee_40 (by decide) (fun c_40 => ?_) (fun c_40 => ?_)
    · refine lv_iconst (v := 0) hx hb dX4_foresee_52 (by decide) ?_
      revert hP; revert hD; revert hS; revert hl
      subst ex29_1
      intro hl hS hD hP
      simp only [j53_0_X4_foresee, if_pos c_40] at J53
      exact J53 _ (lv_sub hl [0, 1, 2, 3, 4] rfl)
    · refine lv_aload_n hx hb dX4_foresee_43 rfl (lv_at hl 1 rfl) ?_
      refine ag_getX1 (v := .int (f 4)) hx hb hG hown hK hP 1 4 rfl (by decide) k_42 rfl dX4_foresee_44 ?_
      refine lv_iload_n hx hb dX4_foresee_47 rfl (lv_at hl 2 rfl) ?_
      refine lv_imul hx hb dX4_foresee_48 ?_
      refine lv_goto (tgt := 53) hx hb dX4_foresee_49 (by decide) ?_
      revert hP; revert hD; revert hS; revert hl
      subst ex29_1
      intro hl hS hD hP
      simp only [j53_0_X4_foresee, if_neg c_40] at J53
      exact J53 _ (lv_sub hl [0, 1, 2, 3, 4] rfl)
  refine lv_if_eq (tgt := 21) hx hb dX4_foresee_14 (by decide) (fun c_14 => ?_) (fun c_14 => ?_)
  · refine lv_aload_n hx hb dX4_foresee_21 rfl (lv_at hl 3 rfl) ?_
    refine ag_getX1 (v := .int (f 3)) hx hb hG hown hK hP 1 3 rfl (by decide) k_38 rfl dX4_foresee_22 ?_
    refine lv_iload_n hx hb dX4_foresee_25 rfl (lv_at hl 4 rfl) ?_
    refine lv_imul hx hb dX4_foresee_26 ?_
    refine lv_iconst (v := 2) hx hb dX4_foresee_27 (by decide) ?_
    refine lv_imul hx hb dX4_foresee_28 ?_
    simp only [j29_0_X4_foresee, if_pos c_14] at J29
    exact J29 _ (lv_sub hl [2, 3, 4, 1, 0] rfl)
  · refine lv_iconst (v := 0) hx hb dX4_foresee_17 (by decide) ?_
    refine lv_goto (tgt := 29) hx hb dX4_foresee_18 (by decide) ?_
    simp only [j29_0_X4_foresee, if_neg c_14] at J29
    exact J29 _ (lv_sub hl [2, 3, 4, 1, 0] rfl)
