/-! the model: first -/
def sr_X6_in (p1 : Int32) (p2 : Int32) (p3 : Int32) : Int32 := if p1 < p2 then 0 else if p3 < p1 then 0 else 1
abbrev po_X6_in (cI cC cL : ClassId) (p1 : Int32) (p2 : Int32) (p3 : Int32) : Int32 → va_W → Prop := fun r w' => sr_X6_in p1 p2 p3 = r ∧ [] = w'
set_option maxHeartbeats 4000000 in
set_option maxRecDepth 100000 in
theorem ct_X6_in (l : Launch) (D : va_G) (cI cC cL : ClassId) (p1 : Int32) (p2 : Int32) (p3 : Int32) : ag_MI l yX6_in cX6_in 3 .boolean 0 0 D cI cC cL [.int p1, .int p2, .int p3] [] (po_X6_in cI cC cL p1 p2 p3) := by
  refine ag_MI.of (plainFor_of_name (by decide)) (Nat.le_of_ble_eq_true rfl) ?_
  intro p e s m below meth c hx hb hr hlocks hml hown hmn hG hK A hN hA H locs hP hD hS ls hl
  have hl : lv_has ls 3 [(0, .int p1), (1, .int p2), (2, .int p3)] := hl
  refine lv_iload_n hx hb dX6_in_0 rfl (lv_at hl 0 rfl) ?_
  refine lv_iload_n hx hb dX6_in_1 rfl (lv_at hl 1 rfl) ?_
  refine lv_icmp_lt (tgt := 14) hx hb dX6_in_2 (by decide) (fun c_2 => ?_) (fun c_2 => ?_)
  · refine lv_iconst (v := 0) hx hb dX6_in_14 (by decide) ?_
    exact ag_iret [] hx hb hr (by decide) hlocks hP hS rfl rfl ⟨(by unfold sr_X6_in; rw [if_pos c_2]), rfl⟩ dX6_in_15
  · refine lv_iload_n hx hb dX6_in_5 rfl (lv_at hl 0 rfl) ?_
    refine lv_iload_n hx hb dX6_in_6 rfl (lv_at hl 2 rfl) ?_
    refine lv_icmp_gt (tgt := 14) hx hb dX6_in_7 (by decide) (fun c_7 => ?_) (fun c_7 => ?_)
    · refine lv_iconst (v := 0) hx hb dX6_in_14 (by decide) ?_
      exact ag_iret [] hx hb hr (by decide) hlocks hP hS rfl rfl ⟨(by unfold sr_X6_in; rw [if_neg c_2, if_pos c_7]), rfl⟩ dX6_in_15
    · refine lv_iconst (v := 1) hx hb dX6_in_10 (by decide) ?_
      refine lv_goto (tgt := 15) hx hb dX6_in_11 (by decide) ?_
      exact ag_iret [] hx hb hr (by decide) hlocks hP hS rfl rfl ⟨(by unfold sr_X6_in; rw [if_neg c_2, if_neg c_7]), rfl⟩ dX6_in_15
def sr_X6_size (p1 : Int32) : Int32 := if 0 ≤ p1 then p1 else -p1
abbrev po_X6_size (cI cC cL : ClassId) (p1 : Int32) : Int32 → va_W → Prop := fun r w' => sr_X6_size p1 = r ∧ [] = w'
set_option maxHeartbeats 4000000 in
set_option maxRecDepth 100000 in
theorem ct_X6_size (l : Launch) (D : va_G) (cI cC cL : ClassId) (p1 : Int32) : ag_MI l yX6_size cX6_size 1 .int 0 0 D cI cC cL [.int p1] [] (po_X6_size cI cC cL p1) := by
  refine ag_MI.of (plainFor_of_name (by decide)) (Nat.le_of_ble_eq_true rfl) ?_
  intro p e s m below meth c hx hb hr hlocks hml hown hmn hG hK A hN hA H locs hP hD hS ls hl
  have hl : lv_has ls 1 [(0, .int p1)] := hl
  refine lv_iload_n hx hb dX6_size_0 rfl (lv_at hl 0 rfl) ?_
  refine lv_if_ge (tgt := 9) hx hb dX6_size_1 (by decide) (fun c_1 => ?_) (fun c_1 => ?_)
  · refine lv_iload_n hx hb dX6_size_9 rfl (lv_at hl 0 rfl) ?_
    exact ag_iret [] hx hb hr rfl hlocks hP hS rfl rfl ⟨(by unfold sr_X6_size; rw [if_pos c_1]), rfl⟩ dX6_size_10
  · refine lv_iload_n hx hb dX6_size_4 rfl (lv_at hl 0 rfl) ?_
    refine lv_ineg hx hb dX6_size_5 ?_
    refine lv_goto (tgt := 10) hx hb dX6_size_6 (by decide) ?_
    exact ag_iret [] hx hb hr rfl hlocks hP hS rfl rfl ⟨(by unfold sr_X6_size; rw [if_neg c_1]), rfl⟩ dX6_size_10
def sr_X6_tide (p1 : Int32) : Int32 := 200 + (20 * (sr_X6_size (((p1 / 144) - (p1 / 144) / 14 * 14) - 7)))
abbrev po_X6_tide (cI cC cL : ClassId) (p1 : Int32) : Int32 → va_W → Prop := fun r w' => sr_X6_tide p1 = r ∧ [] = w'
set_option maxHeartbeats 4000000 in
set_option maxRecDepth 100000 in
theorem ct_X6_tide (l : Launch) (D : va_G) (cI cC cL : ClassId) (p1 : Int32) : ag_MI l yX6_tide cX6_tide 1 .int 1 20 D cI cC cL [.int p1] [] (po_X6_tide cI cC cL p1) := by
  refine ag_MI.of (plainFor_of_name (by decide)) (Nat.le_of_ble_eq_true rfl) ?_
  intro p e s m below meth c hx hb hr hlocks hml hown hmn hG hK A hN hA H locs hP hD hS ls hl
  have hl : lv_has ls 1 [(0, .int p1)] := hl
  refine lv_sipush (v := 200) hx hb dX6_tide_0 (by decide) ?_
  refine lv_bipush (v := 20) hx hb dX6_tide_3 (by decide) ?_
  refine lv_iload_n hx hb dX6_tide_5 rfl (lv_at hl 0 rfl) ?_
  refine lv_sipush (v := 144) hx hb dX6_tide_6 (by decide) ?_
  refine lv_idiv hx hb dX6_tide_9 (by decide) ?_
  refine lv_bipush (v := 14) hx hb dX6_tide_10 (by decide) ?_
  refine lv_irem hx hb dX6_tide_12 (by decide) ?_
  refine lv_bipush (v := 7) hx hb dX6_tide_13 (by decide) ?_
  refine lv_isub hx hb dX6_tide_15 ?_
  refine ag_callSi (As := [.int (((p1 / 144) - (p1 / 144) / 14 * 14) - 7)]) (rest := [.int 20, .int 200]) hx hb hml hown hG hK hN hA hP hD hS hl (ct_X6_size l D cI cC cL (((p1 / 144) - (p1 / 144) / 14 * 14) - 7)) fX6_size k_658 ag_cut_0 rfl (Nat.le_of_ble_eq_true rfl) ⟨Nat.le_of_ble_eq_true rfl, Nat.le_of_ble_eq_true rfl⟩ ⟨Nat.zero_le _, Nat.zero_le _⟩ dX6_tide_16 (fun r w1 H locs hw hP hD hS => ?_)
  obtain ⟨rfl, hw⟩ := hw
  subst hw
  have hP : va_P D vwCl [] H := hP
  have hD : va_D A [] := hD
  refine lv_imul hx hb dX6_tide_19 ?_
  refine lv_iadd hx hb dX6_tide_20 ?_
  exact ag_iret [] hx hb hr rfl hlocks hP hS rfl rfl ⟨rfl, rfl⟩ dX6_tide_21
def sr_X6_seaLevel (p1 : Int32) : Int32 := if 37 ≤ (p1 - p1 / 74 * 74) then (sr_X6_tide p1) - (((2 * (sr_X6_tide p1)) * ((p1 - p1 / 74 * 74) - 37)) / 37) else (((2 * (sr_X6_tide p1)) * (p1 - p1 / 74 * 74)) / 37) - (sr_X6_tide p1)
abbrev po_X6_seaLevel (cI cC cL : ClassId) (p1 : Int32) : Int32 → va_W → Prop := fun r w' => sr_X6_seaLevel p1 = r ∧ [] = w'
set_option maxHeartbeats 4000000 in
set_option maxRecDepth 100000 in
theorem ct_X6_seaLevel (l : Launch) (D : va_G) (cI cC cL : ClassId) (p1 : Int32) : ag_MI l yX6_seaLevel cX6_seaLevel 3 .int 2 40 D cI cC cL [.int p1] [] (po_X6_seaLevel cI cC cL p1) := by
  refine ag_MI.of (plainFor_of_name (by decide)) (Nat.le_of_ble_eq_true rfl) ?_
  intro p e s m below meth c hx hb hr hlocks hml hown hmn hG hK A hN hA H locs hP hD hS ls hl
  have hl : lv_has ls 3 [(0, .int p1)] := hl
  refine lv_iload_n hx hb dX6_seaLevel_0 rfl (lv_at hl 0 rfl) ?_
  refine ag_callSi (As := [.int p1]) (rest := []) hx hb hml hown hG hK hN hA hP hD hS hl (ct_X6_tide l D cI cC cL p1) fX6_tide k_655 ag_cut_0 rfl (Nat.le_of_ble_eq_true rfl) ⟨Nat.le_of_ble_eq_true rfl, Nat.le_of_ble_eq_true rfl⟩ ⟨Nat.zero_le _, Nat.zero_le _⟩ dX6_seaLevel_1 (fun r w1 H locs hw hP hD hS => ?_)
  obtain ⟨rfl, hw⟩ := hw
  subst hw
  have hP : va_P D vwCl [] H := hP
  have hD : va_D A [] := hD
  refine lv_istore_n (lv' := [(1, .int (sr_X6_tide p1)), (0, .int p1)]) hx hb dX6_seaLevel_4 rfl hl (by decide) rfl (fun ls hl => ?_)
  refine lv_iload_n hx hb dX6_seaLevel_5 rfl (lv_at hl 1 rfl) ?_
  refine lv_bipush (v := 74) hx hb dX6_seaLevel_6 (by decide) ?_
  refine lv_irem hx hb dX6_seaLevel_8 (by decide) ?_
  refine lv_istore_n (lv' := [(2, .int (p1 - p1 / 74 * 74)), (1, .int (sr_X6_tide p1)), (0, .int p1)]) hx hb dX6_seaLevel_9 rfl hl (by decide) rfl (fun ls hl => ?_)
  refine lv_iload_n hx hb dX6_seaLevel_10 rfl (lv_at hl 0 rfl) ?_
  refine lv_bipush (v := 37) hx hb dX6_seaLevel_11 (by decide) ?_
  refine lv_icmp_ge (tgt := 29) hx hb dX6_seaLevel_13 (by decide) (fun c_13 => ?_) (fun c_13 => ?_)
  · refine lv_iload_n hx hb dX6_seaLevel_29 rfl (lv_at hl 1 rfl) ?_
    refine lv_iconst (v := 2) hx hb dX6_seaLevel_30 (by decide) ?_
    refine lv_iload_n hx hb dX6_seaLevel_31 rfl (lv_at hl 1 rfl) ?_
    refine lv_imul hx hb dX6_seaLevel_32 ?_
    refine lv_iload_n hx hb dX6_seaLevel_33 rfl (lv_at hl 0 rfl) ?_
    refine lv_bipush (v := 37) hx hb dX6_seaLevel_34 (by decide) ?_
    refine lv_isub hx hb dX6_seaLevel_36 ?_
    refine lv_imul hx hb dX6_seaLevel_37 ?_
    refine lv_bipush (v := 37) hx hb dX6_seaLevel_38 (by decide) ?_
    refine lv_idiv hx hb dX6_seaLevel_40 (by decide) ?_
    refine lv_isub hx hb dX6_seaLevel_41 ?_
    exact ag_iret [] hx hb hr rfl hlocks hP hS rfl rfl ⟨(by unfold sr_X6_seaLevel; rw [if_pos c_13]), rfl⟩ dX6_seaLevel_42
  · refine lv_iconst (v := 2) hx hb dX6_seaLevel_16 (by decide) ?_
    refine lv_iload_n hx hb dX6_seaLevel_17 rfl (lv_at hl 1 rfl) ?_
    refine lv_imul hx hb dX6_seaLevel_18 ?_
    refine lv_iload_n hx hb dX6_seaLevel_19 rfl (lv_at hl 0 rfl) ?_
    refine lv_imul hx hb dX6_seaLevel_20 ?_
    refine lv_bipush (v := 37) hx hb dX6_seaLevel_21 (by decide) ?_
    refine lv_idiv hx hb dX6_seaLevel_23 (by decide) ?_
    refine lv_iload_n hx hb dX6_seaLevel_24 rfl (lv_at hl 1 rfl) ?_
    refine lv_isub hx hb dX6_seaLevel_25 ?_
    refine lv_goto (tgt := 42) hx hb dX6_seaLevel_26 (by decide) ?_
    exact ag_iret [] hx hb hr rfl hlocks hP hS rfl rfl ⟨(by unfold sr_X6_seaLevel; rw [if_neg c_13]), rfl⟩ dX6_seaLevel_42
def sr_X6_mostOf (p1 : Int32) : Int32 := if p1 = 2 then 9999 else 400
abbrev po_X6_mostOf (cI cC cL : ClassId) (p1 : Int32) : Int32 → va_W → Prop := fun r w' => sr_X6_mostOf p1 = r ∧ [] = w'
set_option maxHeartbeats 4000000 in
set_option maxRecDepth 100000 in
theorem ct_X6_mostOf (l : Launch) (D : va_G) (cI cC cL : ClassId) (p1 : Int32) : ag_MI l yX6_mostOf cX6_mostOf 1 .int 0 0 D cI cC cL [.int p1] [] (po_X6_mostOf cI cC cL p1) := by
  refine ag_MI.of (plainFor_of_name (by decide)) (Nat.le_of_ble_eq_true rfl) ?_
  intro p e s m below meth c hx hb hr hlocks hml hown hmn hG hK A hN hA H locs hP hD hS ls hl
  have hl : lv_has ls 1 [(0, .int p1)] := hl
  refine lv_iload_n hx hb dX6_mostOf_0 rfl (lv_at hl 0 rfl) ?_
  refine lv_iconst (v := 2) hx hb dX6_mostOf_1 (by decide) ?_
  refine lv_icmp_ne (tgt := 11) hx hb dX6_mostOf_2 (by decide) (fun c_2 => ?_) (fun c_2 => ?_)
  · refine lv_sipush (v := 400) hx hb dX6_mostOf_11 (by decide) ?_
    exact ag_iret [] hx hb hr rfl hlocks hP hS rfl rfl ⟨(by unfold sr_X6_mostOf; rw [if_neg c_2]), rfl⟩ dX6_mostOf_14
  · refine lv_sipush (v := 9999) hx hb dX6_mostOf_5 (by decide) ?_
    refine lv_goto (tgt := 14) hx hb dX6_mostOf_8 (by decide) ?_
    exact ag_iret [] hx hb hr rfl hlocks hP hS rfl rfl ⟨(by unfold sr_X6_mostOf; rw [if_pos c_2]), rfl⟩ dX6_mostOf_14
def sr_X6_numbersOf (p1 : Int32) : Int32 := if p1 = 98 then 2 else if p1 = 103 then 1 else if p1 = 116 then 1 else if p1 = 112 then 1 else if p1 = 113 then 1 else if p1 = 114 then 1 else 0
abbrev po_X6_numbersOf (cI cC cL : ClassId) (p1 : Int32) : Int32 → va_W → Prop := fun r w' => sr_X6_numbersOf p1 = r ∧ [] = w'
set_option maxHeartbeats 4000000 in
set_option maxRecDepth 100000 in
theorem ct_X6_numbersOf (l : Launch) (D : va_G) (cI cC cL : ClassId) (p1 : Int32) : ag_MI l yX6_numbersOf cX6_numbersOf 1 .int 0 0 D cI cC cL [.int p1] [] (po_X6_numbersOf cI cC cL p1) := by
  refine ag_MI.of (plainFor_of_name (by decide)) (Nat.le_of_ble_eq_true rfl) ?_
  intro p e s m below meth c hx hb hr hlocks hml hown hmn hG hK A hN hA H locs hP hD hS ls hl
  have hl : lv_has ls 1 [(0, .int p1)] := hl
  refine lv_iload_n hx hb dX6_numbersOf_0 rfl (lv_at hl 0 rfl) ?_
  refine lv_bipush (v := 98) hx hb dX6_numbersOf_1 (by decide) ?_
  refine lv_icmp_ne (tgt := 10) hx hb dX6_numbersOf_3 (by decide) (fun c_3 => ?_) (fun c_3 => ?_)
  · refine lv_iload_n hx hb dX6_numbersOf_10 rfl (lv_at hl 0 rfl) ?_
    refine lv_bipush (v := 103) hx hb dX6_numbersOf_11 (by decide) ?_
    refine lv_icmp_eq (tgt := 40) hx hb dX6_numbersOf_13 (by decide) (fun c_13 => ?_) (fun c_13 => ?_)
    · refine lv_iconst (v := 1) hx hb dX6_numbersOf_40 (by decide) ?_
      refine lv_goto (tgt := 45) hx hb dX6_numbersOf_41 (by decide) ?_
      exact ag_iret [] hx hb hr rfl hlocks hP hS rfl rfl ⟨(by unfold sr_X6_numbersOf; rw [if_neg c_3, if_pos c_13]), rfl⟩ dX6_numbersOf_45
    · refine lv_iload_n hx hb dX6_numbersOf_16 rfl (lv_at hl 0 rfl) ?_
      refine lv_bipush (v := 116) hx hb dX6_numbersOf_17 (by decide) ?_
      refine lv_icmp_eq (tgt := 40) hx hb dX6_numbersOf_19 (by decide) (fun c_19 => ?_) (fun c_19 => ?_)
      · refine lv_iconst (v := 1) hx hb dX6_numbersOf_40 (by decide) ?_
        refine lv_goto (tgt := 45) hx hb dX6_numbersOf_41 (by decide) ?_
        exact ag_iret [] hx hb hr rfl hlocks hP hS rfl rfl ⟨(by unfold sr_X6_numbersOf; rw [if_neg c_3, if_neg c_13, if_pos c_19]), rfl⟩ dX6_numbersOf_45
      · refine lv_iload_n hx hb dX6_numbersOf_22 rfl (lv_at hl 0 rfl) ?_
        refine lv_bipush (v := 112) hx hb dX6_numbersOf_23 (by decide) ?_
        refine lv_icmp_eq (tgt := 40) hx hb dX6_numbersOf_25 (by decide) (fun c_25 => ?_) (fun c_25 => ?_)
        · refine lv_iconst (v := 1) hx hb dX6_numbersOf_40 (by decide) ?_
          refine lv_goto (tgt := 45) hx hb dX6_numbersOf_41 (by decide) ?_
          exact ag_iret [] hx hb hr rfl hlocks hP hS rfl rfl ⟨(by unfold sr_X6_numbersOf; rw [if_neg c_3, if_neg c_13, if_neg c_19, if_pos c_25]), rfl⟩ dX6_numbersOf_45
        · refine lv_iload_n hx hb dX6_numbersOf_28 rfl (lv_at hl 0 rfl) ?_
          refine lv_bipush (v := 113) hx hb dX6_numbersOf_29 (by decide) ?_
          refine lv_icmp_eq (tgt := 40) hx hb dX6_numbersOf_31 (by decide) (fun c_31 => ?_) (fun c_31 => ?_)
          · refine lv_iconst (v := 1) hx hb dX6_numbersOf_40 (by decide) ?_
            refine lv_goto (tgt := 45) hx hb dX6_numbersOf_41 (by decide) ?_
            exact ag_iret [] hx hb hr rfl hlocks hP hS rfl rfl ⟨(by unfold sr_X6_numbersOf; rw [if_neg c_3, if_neg c_13, if_neg c_19, if_neg c_25, if_pos c_31]), rfl⟩ dX6_numbersOf_45
          · refine lv_iload_n hx hb dX6_numbersOf_34 rfl (lv_at hl 0 rfl) ?_
            refine lv_bipush (v := 114) hx hb dX6_numbersOf_35 (by decide) ?_
            refine lv_icmp_ne (tgt := 44) hx hb dX6_numbersOf_37 (by decide) (fun c_37 => ?_) (fun c_37 => ?_)
            · refine lv_iconst (v := 0) hx hb dX6_numbersOf_44 (by decide) ?_
              exact ag_iret [] hx hb hr rfl hlocks hP hS rfl rfl ⟨(by unfold sr_X6_numbersOf; rw [if_neg c_3, if_neg c_13, if_neg c_19, if_neg c_25, if_neg c_31, if_neg c_37]), rfl⟩ dX6_numbersOf_45
            · refine lv_iconst (v := 1) hx hb dX6_numbersOf_40 (by decide) ?_
              refine lv_goto (tgt := 45) hx hb dX6_numbersOf_41 (by decide) ?_
              exact ag_iret [] hx hb hr rfl hlocks hP hS rfl rfl ⟨(by unfold sr_X6_numbersOf; rw [if_neg c_3, if_neg c_13, if_neg c_19, if_neg c_25, if_neg c_31, if_pos c_37]), rfl⟩ dX6_numbersOf_45
  · refine lv_iconst (v := 2) hx hb dX6_numbersOf_6 (by decide) ?_
    refine lv_goto (tgt := 45) hx hb dX6_numbersOf_7 (by decide) ?_
    exact ag_iret [] hx hb hr rfl hlocks hP hS rfl rfl ⟨(by unfold sr_X6_numbersOf; rw [if_pos c_3]), rfl⟩ dX6_numbersOf_45
def sr_X6_level (ms : Nat → Int32) : Int32 := (((ms 1) + (ms 2)) / 100) - 400
abbrev po_X6_level (cI cC cL : ClassId) (m0 m1 m2 m3 m4 m5 m6 : Nat) (mf ms : Nat → Int32) : Int32 → va_W → Prop := fun r w' => sr_X6_level ms = r ∧ [oM m0 m1 m2 m3 m4 m5 m6 mf, aI cI m1 89 ms] = w'
set_option maxHeartbeats 4000000 in
set_option maxRecDepth 100000 in
theorem ct_X6_level (l : Launch) (D : va_G) (cI cC cL : ClassId) (m0 m1 m2 m3 m4 m5 m6 : Nat) (mf ms : Nat → Int32) : ag_MI l yX6_level cX6_level 1 .int 0 0 D cI cC cL [.ref m0] [oM m0 m1 m2 m3 m4 m5 m6 mf, aI cI m1 89 ms] (po_X6_level cI cC cL m0 m1 m2 m3 m4 m5 m6 mf ms) := by
  refine ag_MI.of (plainFor_of_name (by decide)) (Nat.le_of_ble_eq_true rfl) ?_
  intro p e s m below meth c hx hb hr hlocks hml hown hmn hG hK A hN hA H locs hP hD hS ls hl
  have hl : lv_has ls 1 [(0, .ref m0)] := hl
  refine lv_aload_n hx hb dX6_level_0 rfl (lv_at hl 0 rfl) ?_
  refine ag_getX6 (v := .ref m1) hx hb hG hown hK hP 0 0 rfl (by decide) k_536 rfl dX6_level_1 ?_
  refine lv_iconst (v := 1) hx hb dX6_level_4 (by decide) ?_
  refine ag_ild (k := 1) (v := ms 1) hx hb hK hP 1 rfl rfl (Nat.le_of_ble_eq_true rfl) (Nat.le_of_ble_eq_true rfl) rfl dX6_level_5 ?_
  refine lv_aload_n hx hb dX6_level_6 rfl (lv_at hl 0 rfl) ?_
  refine ag_getX6 (v := .ref m1) hx hb hG hown hK hP 0 0 rfl (by decide) k_536 rfl dX6_level_7 ?_
  refine lv_iconst (v := 2) hx hb dX6_level_10 (by decide) ?_
  refine ag_ild (k := 2) (v := ms 2) hx hb hK hP 1 rfl rfl (Nat.le_of_ble_eq_true rfl) (Nat.le_of_ble_eq_true rfl) rfl dX6_level_11 ?_
  refine lv_iadd hx hb dX6_level_12 ?_
  refine lv_bipush (v := 100) hx hb dX6_level_13 (by decide) ?_
  refine lv_idiv hx hb dX6_level_15 (by decide) ?_
  refine lv_sipush (v := 400) hx hb dX6_level_16 (by decide) ?_
  refine lv_isub hx hb dX6_level_19 ?_
  exact ag_iret [m0, m1] hx hb hr rfl hlocks hP hS rfl rfl ⟨rfl, rfl⟩ dX6_level_20
def sr_X6_head (ms : Nat → Int32) : Int32 := (sr_X6_seaLevel (ms 0)) - (sr_X6_level ms)
abbrev po_X6_head (cI cC cL : ClassId) (m0 m1 m2 m3 m4 m5 m6 : Nat) (mf ms : Nat → Int32) : Int32 → va_W → Prop := fun r w' => sr_X6_head ms = r ∧ [oM m0 m1 m2 m3 m4 m5 m6 mf, aI cI m1 89 ms] = w'
set_option maxHeartbeats 4000000 in
set_option maxRecDepth 100000 in
theorem ct_X6_head (l : Launch) (D : va_G) (cI cC cL : ClassId) (m0 m1 m2 m3 m4 m5 m6 : Nat) (mf ms : Nat → Int32) : ag_MI l yX6_head cX6_head 1 .int 3 62 D cI cC cL [.ref m0] [oM m0 m1 m2 m3 m4 m5 m6 mf, aI cI m1 89 ms] (po_X6_head cI cC cL m0 m1 m2 m3 m4 m5 m6 mf ms) := by
  refine ag_MI.of (plainFor_of_name (by decide)) (Nat.le_of_ble_eq_true rfl) ?_
  intro p e s m below meth c hx hb hr hlocks hml hown hmn hG hK A hN hA H locs hP hD hS ls hl
  have hl : lv_has ls 1 [(0, .ref m0)] := hl
  refine lv_aload_n hx hb dX6_head_0 rfl (lv_at hl 0 rfl) ?_
  refine ag_getX6 (v := .ref m1) hx hb hG hown hK hP 0 0 rfl (by decide) k_536 rfl dX6_head_1 ?_
  refine lv_iconst (v := 0) hx hb dX6_head_4 (by decide) ?_
  refine ag_ild (k := 0) (v := ms 0) hx hb hK hP 1 rfl rfl (Nat.le_of_ble_eq_true rfl) (Nat.le_of_ble_eq_true rfl) rfl dX6_head_5 ?_
  refine ag_callSi (As := [.int (ms 0)]) (rest := []) hx hb hml hown hG hK hN hA hP hD hS hl (ct_X6_seaLevel l D cI cC cL (ms 0)) fX6_seaLevel k_652 ag_cut_0 rfl (Nat.le_of_ble_eq_true rfl) ⟨Nat.le_of_ble_eq_true rfl, Nat.le_of_ble_eq_true rfl⟩ ⟨Nat.zero_le _, Nat.zero_le _⟩ dX6_head_6 (fun r w1 H locs hw hP hD hS => ?_)
  obtain ⟨rfl, hw⟩ := hw
  subst hw
  have hP : va_P D vwCl [oM m0 m1 m2 m3 m4 m5 m6 mf, aI cI m1 89 ms] H := hP
  have hD : va_D A [oM m0 m1 m2 m3 m4 m5 m6 mf, aI cI m1 89 ms] := hD
  refine lv_aload_n hx hb dX6_head_9 rfl (lv_at hl 0 rfl) ?_
  refine ag_callVi (As := []) (rest := [.int (sr_X6_seaLevel (ms 0))]) hx hb hml hown hG hK hN hA hP hD hS hl (ct_X6_level l D cI cC cL m0 m1 m2 m3 m4 m5 m6 mf ms) fX6_level k_661 ag_cut_all (q0 := 0) rfl rfl rfl rfl (Nat.le_of_ble_eq_true rfl) ⟨Nat.le_of_ble_eq_true rfl, Nat.le_of_ble_eq_true rfl⟩ ⟨Nat.zero_le _, Nat.zero_le _⟩ dX6_head_10 (fun r w1 H locs hw hP hD hS => ?_)
  obtain ⟨rfl, hw⟩ := hw
  subst hw
  have hP : va_P D vwCl [oM m0 m1 m2 m3 m4 m5 m6 mf, aI cI m1 89 ms] H := hP
  have hD : va_D A [oM m0 m1 m2 m3 m4 m5 m6 mf, aI cI m1 89 ms] := hD
  refine lv_isub hx hb dX6_head_13 ?_
  exact ag_iret [m0, m1] hx hb hr rfl hlocks hP hS rfl rfl ⟨rfl, rfl⟩ dX6_head_14
def sr_X6_isBirds (ms : Nat → Int32) : Int32 := if ((ms 0) - (ms 0) / 144 * 144) < (ms 6) then 0 else if (ms 7) ≤ ((ms 0) - (ms 0) / 144 * 144) then 0 else 1
abbrev po_X6_isBirds (cI cC cL : ClassId) (m0 m1 m2 m3 m4 m5 m6 : Nat) (mf ms : Nat → Int32) : Int32 → va_W → Prop := fun r w' => sr_X6_isBirds ms = r ∧ [oM m0 m1 m2 m3 m4 m5 m6 mf, aI cI m1 89 ms] = w'
set_option maxHeartbeats 4000000 in
set_option maxRecDepth 100000 in
theorem ct_X6_isBirds (l : Launch) (D : va_G) (cI cC cL : ClassId) (m0 m1 m2 m3 m4 m5 m6 : Nat) (mf ms : Nat → Int32) : ag_MI l yX6_isBirds cX6_isBirds 1 .boolean 0 0 D cI cC cL [.ref m0] [oM m0 m1 m2 m3 m4 m5 m6 mf, aI cI m1 89 ms] (po_X6_isBirds cI cC cL m0 m1 m2 m3 m4 m5 m6 mf ms) := by
  refine ag_MI.of (plainFor_of_name (by decide)) (Nat.le_of_ble_eq_true rfl) ?_
  intro p e s m below meth c hx hb hr hlocks hml hown hmn hG hK A hN hA H locs hP hD hS ls hl
  have hl : lv_has ls 1 [(0, .ref m0)] := hl
  refine lv_aload_n hx hb dX6_isBirds_0 rfl (lv_at hl 0 rfl) ?_
  refine ag_getX6 (v := .ref m1) hx hb hG hown hK hP 0 0 rfl (by decide) k_536 rfl dX6_isBirds_1 ?_
  refine lv_iconst (v := 0) hx hb dX6_isBirds_4 (by decide) ?_
  refine ag_ild (k := 0) (v := ms 0) hx hb hK hP 1 rfl rfl (Nat.le_of_ble_eq_true rfl) (Nat.le_of_ble_eq_true rfl) rfl dX6_isBirds_5 ?_
  refine lv_sipush (v := 144) hx hb dX6_isBirds_6 (by decide) ?_
  refine lv_irem hx hb dX6_isBirds_9 (by decide) ?_
  refine lv_aload_n hx hb dX6_isBirds_10 rfl (lv_at hl 0 rfl) ?_
  refine ag_getX6 (v := .ref m1) hx hb hG hown hK hP 0 0 rfl (by decide) k_536 rfl dX6_isBirds_11 ?_
  refine lv_bipush (v := 6) hx hb dX6_isBirds_14 (by decide) ?_
  refine ag_ild (k := 6) (v := ms 6) hx hb hK hP 1 rfl rfl (Nat.le_of_ble_eq_true rfl) (Nat.le_of_ble_eq_true rfl) rfl dX6_isBirds_16 ?_
  refine lv_icmp_lt (tgt := 44) hx hb dX6_isBirds_17 (by decide) (fun c_17 => ?_) (fun c_17 => ?_)
  · refine lv_iconst (v := 0) hx hb dX6_isBirds_44 (by decide) ?_
    exact ag_iret [m0, m1] hx hb hr (by decide) hlocks hP hS rfl rfl ⟨(by unfold sr_X6_isBirds; rw [if_pos c_17]), rfl⟩ dX6_isBirds_45
  · refine lv_aload_n hx hb dX6_isBirds_20 rfl (lv_at hl 0 rfl) ?_
    refine ag_getX6 (v := .ref m1) hx hb hG hown hK hP 0 0 rfl (by decide) k_536 rfl dX6_isBirds_21 ?_
    refine lv_iconst (v := 0) hx hb dX6_isBirds_24 (by decide) ?_
    refine ag_ild (k := 0) (v := ms 0) hx hb hK hP 1 rfl rfl (Nat.le_of_ble_eq_true rfl) (Nat.le_of_ble_eq_true rfl) rfl dX6_isBirds_25 ?_
    refine lv_sipush (v := 144) hx hb dX6_isBirds_26 (by decide) ?_
    refine lv_irem hx hb dX6_isBirds_29 (by decide) ?_
    refine lv_aload_n hx hb dX6_isBirds_30 rfl (lv_at hl 0 rfl) ?_
    refine ag_getX6 (v := .ref m1) hx hb hG hown hK hP 0 0 rfl (by decide) k_536 rfl dX6_isBirds_31 ?_
    refine lv_bipush (v := 7) hx hb dX6_isBirds_34 (by decide) ?_
    refine ag_ild (k := 7) (v := ms 7) hx hb hK hP 1 rfl rfl (Nat.le_of_ble_eq_true rfl) (Nat.le_of_ble_eq_true rfl) rfl dX6_isBirds_36 ?_
    refine lv_icmp_ge (tgt := 44) hx hb dX6_isBirds_37 (by decide) (fun c_37 => ?_) (fun c_37 => ?_)
    · refine lv_iconst (v := 0) hx hb dX6_isBirds_44 (by decide) ?_
      exact ag_iret [m0, m1] hx hb hr (by decide) hlocks hP hS rfl rfl ⟨(by unfold sr_X6_isBirds; rw [if_neg c_17, if_pos c_37]), rfl⟩ dX6_isBirds_45
    · refine lv_iconst (v := 1) hx hb dX6_isBirds_40 (by decide) ?_
      refine lv_goto (tgt := 45) hx hb dX6_isBirds_41 (by decide) ?_
      exact ag_iret [m0, m1] hx hb hr (by decide) hlocks hP hS rfl rfl ⟨(by unfold sr_X6_isBirds; rw [if_neg c_17, if_neg c_37]), rfl⟩ dX6_isBirds_45
