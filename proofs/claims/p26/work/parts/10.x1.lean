/-! methods of the class: first -/
def sr_J9_floorMod_7cf53 (p1 : Int32) (p2 : Int32) : Int32 := if 0 ≤ (p1 ^^^ p2) then p1 - p1 / p2 * p2 else if (p1 - p1 / p2 * p2) = 0 then p1 - p1 / p2 * p2 else (p1 - p1 / p2 * p2) + p2
abbrev po_J9_floorMod_7cf53 (cI cC cL : ClassId) (p1 : Int32) (p2 : Int32) (hz : ¬ p2 = 0) : Int32 → va_W → Prop := fun r w' => sr_J9_floorMod_7cf53 p1 p2 = r ∧ [] = w'
set_option maxHeartbeats 4000000 in
set_option maxRecDepth 100000 in
theorem ct_J9_floorMod_7cf53 (l : Launch) (D : va_G) (cI cC cL : ClassId) (p1 : Int32) (p2 : Int32) (hz : ¬ p2 = 0) : ag_MI l yJ9_floorMod_7cf53 cJ9_floorMod_7cf53 3 .int 0 0 D cI cC cL [.int p1, .int p2] [] (po_J9_floorMod_7cf53 cI cC cL p1 p2 hz) := by
  refine ag_MI.of (by decide +kernel) (Nat.le_of_ble_eq_true rfl) ?_
  intro p e s m below meth c hx hb hr hlocks hml hown hmn hG hK A hN hA H locs hP hD hS ls hl
  have hl : lv_has ls 3 [(0, .int p1), (1, .int p2)] := hl
  refine lv_iload_n hx hb dJ9_floorMod_7cf53_0 rfl (lv_at hl 0 rfl) ?_
  refine lv_iload_n hx hb dJ9_floorMod_7cf53_1 rfl (lv_at hl 1 rfl) ?_
  refine lv_irem hx hb dJ9_floorMod_7cf53_2 hz ?_
  refine lv_istore_n (lv' := [(2, .int (p1 - p1 / p2 * p2)), (0, .int p1), (1, .int p2)]) hx hb dJ9_floorMod_7cf53_3 rfl hl (by decide) rfl (fun ls hl => ?_)
  refine lv_iload_n hx hb dJ9_floorMod_7cf53_4 rfl (lv_at hl 1 rfl) ?_
  refine lv_iload_n hx hb dJ9_floorMod_7cf53_5 rfl (lv_at hl 2 rfl) ?_
  refine lv_ixor hx hb dJ9_floorMod_7cf53_6 ?_
  refine lv_if_ge (tgt := 18) hx hb dJ9_floorMod_7cf53_7 (by decide) (fun c_7 => ?_) (fun c_7 => ?_)
  · refine lv_iload_n hx hb dJ9_floorMod_7cf53_18 rfl (lv_at hl 0 rfl) ?_
    exact ag_iret [] hx hb hr rfl hlocks hP hS rfl rfl ⟨(by unfold sr_J9_floorMod_7cf53; rw [if_pos c_7]), rfl⟩ dJ9_floorMod_7cf53_19
  · refine lv_iload_n hx hb dJ9_floorMod_7cf53_10 rfl (lv_at hl 0 rfl) ?_
    refine lv_if_eq (tgt := 18) hx hb dJ9_floorMod_7cf53_11 (by decide) (fun c_11 => ?_) (fun c_11 => ?_)
    · refine lv_iload_n hx hb dJ9_floorMod_7cf53_18 rfl (lv_at hl 0 rfl) ?_
      exact ag_iret [] hx hb hr rfl hlocks hP hS rfl rfl ⟨(by unfold sr_J9_floorMod_7cf53; rw [if_neg c_7, if_pos c_11]), rfl⟩ dJ9_floorMod_7cf53_19
    · refine lv_iload_n hx hb dJ9_floorMod_7cf53_14 rfl (lv_at hl 0 rfl) ?_
      refine lv_iload_n hx hb dJ9_floorMod_7cf53_15 rfl (lv_at hl 2 rfl) ?_
      refine lv_iadd hx hb dJ9_floorMod_7cf53_16 ?_
      exact ag_iret [] hx hb hr rfl hlocks hP hS rfl rfl ⟨(by unfold sr_J9_floorMod_7cf53; rw [if_neg c_7, if_neg c_11]), rfl⟩ dJ9_floorMod_7cf53_17
def sr_J9_floorDiv_7cf53 (p1 : Int32) (p2 : Int32) : Int32 := if 0 ≤ (p1 ^^^ p2) then p1 / p2 else if ((p1 / p2) * p2) = p1 then p1 / p2 else (p1 / p2) - 1
abbrev po_J9_floorDiv_7cf53 (cI cC cL : ClassId) (p1 : Int32) (p2 : Int32) (hz : ¬ p2 = 0) : Int32 → va_W → Prop := fun r w' => sr_J9_floorDiv_7cf53 p1 p2 = r ∧ [] = w'
set_option maxHeartbeats 4000000 in
set_option maxRecDepth 100000 in
theorem ct_J9_floorDiv_7cf53 (l : Launch) (D : va_G) (cI cC cL : ClassId) (p1 : Int32) (p2 : Int32) (hz : ¬ p2 = 0) : ag_MI l yJ9_floorDiv_7cf53 cJ9_floorDiv_7cf53 3 .int 0 0 D cI cC cL [.int p1, .int p2] [] (po_J9_floorDiv_7cf53 cI cC cL p1 p2 hz) := by
  refine ag_MI.of (by decide +kernel) (Nat.le_of_ble_eq_true rfl) ?_
  intro p e s m below meth c hx hb hr hlocks hml hown hmn hG hK A hN hA H locs hP hD hS ls hl
  have hl : lv_has ls 3 [(0, .int p1), (1, .int p2)] := hl
  refine lv_iload_n hx hb dJ9_floorDiv_7cf53_0 rfl (lv_at hl 0 rfl) ?_
  refine lv_iload_n hx hb dJ9_floorDiv_7cf53_1 rfl (lv_at hl 1 rfl) ?_
  refine lv_idiv hx hb dJ9_floorDiv_7cf53_2 hz ?_
  refine lv_istore_n (lv' := [(2, .int (p1 / p2)), (0, .int p1), (1, .int p2)]) hx hb dJ9_floorDiv_7cf53_3 rfl hl (by decide) rfl (fun ls hl => ?_)
  refine lv_iload_n hx hb dJ9_floorDiv_7cf53_4 rfl (lv_at hl 1 rfl) ?_
  refine lv_iload_n hx hb dJ9_floorDiv_7cf53_5 rfl (lv_at hl 2 rfl) ?_
  refine lv_ixor hx hb dJ9_floorDiv_7cf53_6 ?_
  refine lv_if_ge (tgt := 21) hx hb dJ9_floorDiv_7cf53_7 (by decide) (fun c_7 => ?_) (fun c_7 => ?_)
  · refine lv_iload_n hx hb dJ9_floorDiv_7cf53_21 rfl (lv_at hl 0 rfl) ?_
    exact ag_iret [] hx hb hr rfl hlocks hP hS rfl rfl ⟨(by unfold sr_J9_floorDiv_7cf53; rw [if_pos c_7]), rfl⟩ dJ9_floorDiv_7cf53_22
  · refine lv_iload_n hx hb dJ9_floorDiv_7cf53_10 rfl (lv_at hl 0 rfl) ?_
    refine lv_iload_n hx hb dJ9_floorDiv_7cf53_11 rfl (lv_at hl 2 rfl) ?_
    refine lv_imul hx hb dJ9_floorDiv_7cf53_12 ?_
    refine lv_iload_n hx hb dJ9_floorDiv_7cf53_13 rfl (lv_at hl 1 rfl) ?_
    refine lv_icmp_eq (tgt := 21) hx hb dJ9_floorDiv_7cf53_14 (by decide) (fun c_14 => ?_) (fun c_14 => ?_)
    · refine lv_iload_n hx hb dJ9_floorDiv_7cf53_21 rfl (lv_at hl 0 rfl) ?_
      exact ag_iret [] hx hb hr rfl hlocks hP hS rfl rfl ⟨(by unfold sr_J9_floorDiv_7cf53; rw [if_neg c_7, if_pos c_14]), rfl⟩ dJ9_floorDiv_7cf53_22
    · refine lv_iload_n hx hb dJ9_floorDiv_7cf53_17 rfl (lv_at hl 0 rfl) ?_
      refine lv_iconst (v := 1) hx hb dJ9_floorDiv_7cf53_18 (by decide) ?_
      refine lv_isub hx hb dJ9_floorDiv_7cf53_19 ?_
      exact ag_iret [] hx hb hr rfl hlocks hP hS rfl rfl ⟨(by unfold sr_J9_floorDiv_7cf53; rw [if_neg c_7, if_neg c_14]), rfl⟩ dJ9_floorDiv_7cf53_20
def j23_0_X5_tideHeight (p1 : Int32) : Int32 := if 0 ≤ ((p1 - p1 / 14 * 14) - 7) then (p1 - p1 / 14 * 14) - 7 else -((p1 - p1 / 14 * 14) - 7)
def sr_X5_tideHeight (p1 : Int32) : Int32 := 200 + (20 * (j23_0_X5_tideHeight p1))
abbrev po_X5_tideHeight (cI cC cL : ClassId) (p1 : Int32) : Int32 → va_W → Prop := fun r w' => sr_X5_tideHeight p1 = r ∧ [] = w'
set_option maxHeartbeats 4000000 in
set_option maxRecDepth 100000 in
theorem ct_X5_tideHeight (l : Launch) (D : va_G) (cI cC cL : ClassId) (p1 : Int32) : ag_MI l yX5_tideHeight cX5_tideHeight 2 .int 0 0 D cI cC cL [.int p1] [] (po_X5_tideHeight cI cC cL p1) := by
  refine ag_MI.of (plainFor_of_name (by decide)) (Nat.le_of_ble_eq_true rfl) ?_
  intro p e s m below meth c hx hb hr hlocks hml hown hmn hG hK A hN hA H locs hP hD hS ls hl
  have hl : lv_has ls 2 [(0, .int p1)] := hl
  refine lv_iload_n hx hb dX5_tideHeight_0 rfl (lv_at hl 0 rfl) ?_
  refine lv_bipush (v := 14) hx hb dX5_tideHeight_1 (by decide) ?_
  refine lv_irem hx hb dX5_tideHeight_3 (by decide) ?_
  refine lv_bipush (v := 7) hx hb dX5_tideHeight_4 (by decide) ?_
  refine lv_isub hx hb dX5_tideHeight_6 ?_
  refine lv_istore_n (lv' := [(1, .int ((p1 - p1 / 14 * 14) - 7)), (0, .int p1)]) hx hb dX5_tideHeight_7 rfl hl (by decide) rfl (fun ls hl => ?_)
  refine lv_sipush (v := 200) hx hb dX5_tideHeight_8 (by decide) ?_
  refine lv_bipush (v := 20) hx hb dX5_tideHeight_11 (by decide) ?_
  refine lv_iload_n hx hb dX5_tideHeight_13 rfl (lv_at hl 0 rfl) ?_
  have J23 : ∀ (ls : Array Slot), lv_has ls 2 [(0, .int p1), (1, .int ((p1 - p1 / 14 * 14) - 7))] → W p l e (ag_rm 0 0) s m ([.int p1] : List Value).toArray below meth c H locs 0 0 (MQ below (va_Qi (po_X5_tideHeight cI cC cL p1) (ag_Out D []) A) ([.int p1] : List Value).toArray s 0 0 A) (F0 m 23 ls [.int (j23_0_X5_tideHeight p1), .int 20, .int 200]) := by
    intro ls hl
    refine lv_imul hx hb dX5_tideHeight_23 ?_
    refine lv_iadd hx hb dX5_tideHeight_24 ?_
    exact ag_iret [] hx hb hr rfl hlocks hP hS rfl rfl ⟨rfl, rfl⟩ dX5_tideHeight_25
  refine lv_if_ge (tgt := 22) hx hb dX5_tideHeight_14 (by decide) (fun c_14 => ?_) (fun c_14 => ?_)
  · refine lv_iload_n hx hb dX5_tideHeight_22 rfl (lv_at hl 0 rfl) ?_
    simp only [j23_0_X5_tideHeight, if_pos c_14] at J23
    exact J23 _ (lv_sub hl [1, 0] rfl)
  · refine lv_iload_n hx hb dX5_tideHeight_17 rfl (lv_at hl 0 rfl) ?_
    refine lv_ineg hx hb dX5_tideHeight_18 ?_
    refine lv_goto (tgt := 23) hx hb dX5_tideHeight_19 (by decide) ?_
    simp only [j23_0_X5_tideHeight, if_neg c_14] at J23
    exact J23 _ (lv_sub hl [1, 0] rfl)
def sr_X5_seaLevel (p1 : Int32) : Int32 := if 37 ≤ (p1 - p1 / 74 * 74) then (sr_X5_tideHeight (p1 / 144)) - (((2 * (sr_X5_tideHeight (p1 / 144))) * ((p1 - p1 / 74 * 74) - 37)) / 37) else (((2 * (sr_X5_tideHeight (p1 / 144))) * (p1 - p1 / 74 * 74)) / 37) - (sr_X5_tideHeight (p1 / 144))
abbrev po_X5_seaLevel (cI cC cL : ClassId) (p1 : Int32) : Int32 → va_W → Prop := fun r w' => sr_X5_seaLevel p1 = r ∧ [] = w'
set_option maxHeartbeats 4000000 in
set_option maxRecDepth 100000 in
theorem ct_X5_seaLevel (l : Launch) (D : va_G) (cI cC cL : ClassId) (p1 : Int32) : ag_MI l yX5_seaLevel cX5_seaLevel 3 .int 1 21 D cI cC cL [.int p1] [] (po_X5_seaLevel cI cC cL p1) := by
  refine ag_MI.of (plainFor_of_name (by decide)) (Nat.le_of_ble_eq_true rfl) ?_
  intro p e s m below meth c hx hb hr hlocks hml hown hmn hG hK A hN hA H locs hP hD hS ls hl
  have hl : lv_has ls 3 [(0, .int p1)] := hl
  refine lv_iload_n hx hb dX5_seaLevel_0 rfl (lv_at hl 0 rfl) ?_
  refine lv_sipush (v := 144) hx hb dX5_seaLevel_1 (by decide) ?_
  refine lv_idiv hx hb dX5_seaLevel_4 (by decide) ?_
  refine ag_callSi (As := [.int (p1 / 144)]) (rest := []) hx hb hml hown hG hK hN hA hP hD hS hl (ct_X5_tideHeight l D cI cC cL (p1 / 144)) fX5_tideHeight k_202 ag_cut_0 rfl (Nat.le_of_ble_eq_true rfl) ⟨Nat.le_of_ble_eq_true rfl, Nat.le_of_ble_eq_true rfl⟩ ⟨Nat.zero_le _, Nat.zero_le _⟩ dX5_seaLevel_5 (fun r w1 H locs hw hP hD hS => ?_)
  obtain ⟨rfl, hw⟩ := hw
  subst hw
  have hP : va_P D vwCl [] H := hP
  have hD : va_D A [] := hD
  refine lv_istore_n (lv' := [(1, .int (sr_X5_tideHeight (p1 / 144))), (0, .int p1)]) hx hb dX5_seaLevel_8 rfl hl (by decide) rfl (fun ls hl => ?_)
  refine lv_iload_n hx hb dX5_seaLevel_9 rfl (lv_at hl 1 rfl) ?_
  refine lv_bipush (v := 74) hx hb dX5_seaLevel_10 (by decide) ?_
  refine lv_irem hx hb dX5_seaLevel_12 (by decide) ?_
  refine lv_istore_n (lv' := [(2, .int (p1 - p1 / 74 * 74)), (1, .int (sr_X5_tideHeight (p1 / 144))), (0, .int p1)]) hx hb dX5_seaLevel_13 rfl hl (by decide) rfl (fun ls hl => ?_)
  refine lv_iload_n hx hb dX5_seaLevel_14 rfl (lv_at hl 0 rfl) ?_
  refine lv_bipush (v := 37) hx hb dX5_seaLevel_15 (by decide) ?_
  refine lv_icmp_ge (tgt := 31) hx hb dX5_seaLevel_17 (by decide) (fun c_17 => ?_) (fun c_17 => ?_)
  · refine lv_iload_n hx hb dX5_seaLevel_31 rfl (lv_at hl 1 rfl) ?_
    refine lv_iconst (v := 2) hx hb dX5_seaLevel_32 (by decide) ?_
    refine lv_iload_n hx hb dX5_seaLevel_33 rfl (lv_at hl 1 rfl) ?_
    refine lv_imul hx hb dX5_seaLevel_34 ?_
    refine lv_iload_n hx hb dX5_seaLevel_35 rfl (lv_at hl 0 rfl) ?_
    refine lv_bipush (v := 37) hx hb dX5_seaLevel_36 (by decide) ?_
    refine lv_isub hx hb dX5_seaLevel_38 ?_
    refine lv_imul hx hb dX5_seaLevel_39 ?_
    refine lv_bipush (v := 37) hx hb dX5_seaLevel_40 (by decide) ?_
    refine lv_idiv hx hb dX5_seaLevel_42 (by decide) ?_
    refine lv_isub hx hb dX5_seaLevel_43 ?_
    exact ag_iret [] hx hb hr rfl hlocks hP hS rfl rfl ⟨(by unfold sr_X5_seaLevel; rw [if_pos c_17]), rfl⟩ dX5_seaLevel_44
  · refine lv_iconst (v := 2) hx hb dX5_seaLevel_20 (by decide) ?_
    refine lv_iload_n hx hb dX5_seaLevel_21 rfl (lv_at hl 1 rfl) ?_
    refine lv_imul hx hb dX5_seaLevel_22 ?_
    refine lv_iload_n hx hb dX5_seaLevel_23 rfl (lv_at hl 0 rfl) ?_
    refine lv_imul hx hb dX5_seaLevel_24 ?_
    refine lv_bipush (v := 37) hx hb dX5_seaLevel_25 (by decide) ?_
    refine lv_idiv hx hb dX5_seaLevel_27 (by decide) ?_
    refine lv_iload_n hx hb dX5_seaLevel_28 rfl (lv_at hl 1 rfl) ?_
    refine lv_isub hx hb dX5_seaLevel_29 ?_
    exact ag_iret [] hx hb hr rfl hlocks hP hS rfl rfl ⟨(by unfold sr_X5_seaLevel; rw [if_neg c_17]), rfl⟩ dX5_seaLevel_30
def sr_X5_isError (p1 : Int32) : Int32 := if (-1000000001) < p1 then 0 else 1
abbrev po_X5_isError (cI cC cL : ClassId) (p1 : Int32) : Int32 → va_W → Prop := fun r w' => sr_X5_isError p1 = r ∧ [] = w'
set_option maxHeartbeats 4000000 in
set_option maxRecDepth 100000 in
theorem ct_X5_isError (l : Launch) (D : va_G) (cI cC cL : ClassId) (p1 : Int32) : ag_MI l yX5_isError cX5_isError 1 .boolean 0 0 D cI cC cL [.int p1] [] (po_X5_isError cI cC cL p1) := by
  refine ag_MI.of (plainFor_of_name (by decide)) (Nat.le_of_ble_eq_true rfl) ?_
  intro p e s m below meth c hx hb hr hlocks hml hown hmn hG hK A hN hA H locs hP hD hS ls hl
  have hl : lv_has ls 1 [(0, .int p1)] := hl
  refine lv_iload_n hx hb dX5_isError_0 rfl (lv_at hl 0 rfl) ?_
  refine lv_ldc (v := (-1000000001)) hx hb hown (hG _ k_219) dX5_isError_1 ?_
  refine lv_icmp_gt (tgt := 10) hx hb dX5_isError_3 (by decide) (fun c_3 => ?_) (fun c_3 => ?_)
  · refine lv_iconst (v := 0) hx hb dX5_isError_10 (by decide) ?_
    exact ag_iret [] hx hb hr (by decide) hlocks hP hS rfl rfl ⟨(by unfold sr_X5_isError; rw [if_pos c_3]), rfl⟩ dX5_isError_11
  · refine lv_iconst (v := 1) hx hb dX5_isError_6 (by decide) ?_
    refine lv_goto (tgt := 11) hx hb dX5_isError_7 (by decide) ?_
    exact ag_iret [] hx hb hr (by decide) hlocks hP hS rfl rfl ⟨(by unfold sr_X5_isError; rw [if_neg c_3]), rfl⟩ dX5_isError_11
def sr_X5_recordStart (p1 : Int32) : Int32 := (sr_J9_floorMod_7cf53 p1 10) * 6
abbrev po_X5_recordStart (cI cC cL : ClassId) (p1 : Int32) : Int32 → va_W → Prop := fun r w' => sr_X5_recordStart p1 = r ∧ [] = w'
set_option maxHeartbeats 4000000 in
set_option maxRecDepth 100000 in
theorem ct_X5_recordStart (l : Launch) (D : va_G) (cI cC cL : ClassId) (p1 : Int32) : ag_MI l yX5_recordStart cX5_recordStart 1 .int 1 22 D cI cC cL [.int p1] [] (po_X5_recordStart cI cC cL p1) := by
  refine ag_MI.of (plainFor_of_name (by decide)) (Nat.le_of_ble_eq_true rfl) ?_
  intro p e s m below meth c hx hb hr hlocks hml hown hmn hG hK A hN hA H locs hP hD hS ls hl
  have hl : lv_has ls 1 [(0, .int p1)] := hl
  refine lv_iload_n hx hb dX5_recordStart_0 rfl (lv_at hl 0 rfl) ?_
  refine lv_bipush (v := 10) hx hb dX5_recordStart_1 (by decide) ?_
  refine ag_callSi (As := [.int p1, .int 10]) (rest := []) hx hb hml hown hG hK hN hA hP hD hS hl (ct_J9_floorMod_7cf53 l D cI cC cL p1 10 (by decide)) fJ9_floorMod_7cf53 k_374 ag_cut_0 rfl (Nat.le_of_ble_eq_true rfl) ⟨Nat.le_of_ble_eq_true rfl, Nat.le_of_ble_eq_true rfl⟩ ⟨Nat.zero_le _, Nat.zero_le _⟩ dX5_recordStart_3 (fun r w1 H locs hw hP hD hS => ?_)
  obtain ⟨rfl, hw⟩ := hw
  subst hw
  have hP : va_P D vwCl [] H := hP
  have hD : va_D A [] := hD
  refine lv_bipush (v := 6) hx hb dX5_recordStart_6 (by decide) ?_
  refine lv_imul hx hb dX5_recordStart_8 ?_
  exact ag_iret [] hx hb hr rfl hlocks hP hS rfl rfl ⟨rfl, rfl⟩ dX5_recordStart_9
def sr_X1_level (f : Nat → Int32) : Int32 := (((f 1) + (f 2)) / 100) - 400
abbrev po_X1_level (cI cC cL : ClassId) (h h1 h2 h3 : Nat) (f se to re : Nat → Int32) : Int32 → va_W → Prop := fun r w' => sr_X1_level f = r ∧ [oL h h1 h2 h3 f, aI cI h1 3 se, aI cI h2 7 to, aI cI h3 60 re] = w'
set_option maxHeartbeats 4000000 in
set_option maxRecDepth 100000 in
theorem ct_X1_level (l : Launch) (D : va_G) (cI cC cL : ClassId) (h h1 h2 h3 : Nat) (f se to re : Nat → Int32) : ag_MI l yX1_level cX1_level 1 .int 0 0 D cI cC cL [.ref h] [oL h h1 h2 h3 f, aI cI h1 3 se, aI cI h2 7 to, aI cI h3 60 re] (po_X1_level cI cC cL h h1 h2 h3 f se to re) := by
  refine ag_MI.of (plainFor_of_name (by decide)) (Nat.le_of_ble_eq_true rfl) ?_
  intro p e s m below meth c hx hb hr hlocks hml hown hmn hG hK A hN hA H locs hP hD hS ls hl
  have hl : lv_has ls 1 [(0, .ref h)] := hl
  refine lv_aload_n hx hb dX1_level_0 rfl (lv_at hl 0 rfl) ?_
  refine ag_getX1 (v := .int (f 1)) hx hb hG hown hK hP 0 1 rfl (by decide) k_32 rfl dX1_level_1 ?_
  refine lv_aload_n hx hb dX1_level_4 rfl (lv_at hl 0 rfl) ?_
  refine ag_getX1 (v := .int (f 2)) hx hb hG hown hK hP 0 2 rfl (by decide) k_35 rfl dX1_level_5 ?_
  refine lv_iadd hx hb dX1_level_8 ?_
  refine lv_bipush (v := 100) hx hb dX1_level_9 (by decide) ?_
  refine lv_idiv hx hb dX1_level_11 (by decide) ?_
  refine lv_sipush (v := 400) hx hb dX1_level_12 (by decide) ?_
  refine lv_isub hx hb dX1_level_15 ?_
  exact ag_iret [h, h1, h2, h3] hx hb hr rfl hlocks hP hS rfl rfl ⟨rfl, rfl⟩ dX1_level_16
def sr_X1_head (f : Nat → Int32) : Int32 := (sr_X5_seaLevel (f 0)) - (sr_X1_level f)
abbrev po_X1_head (cI cC cL : ClassId) (h h1 h2 h3 : Nat) (f se to re : Nat → Int32) : Int32 → va_W → Prop := fun r w' => sr_X1_head f = r ∧ [oL h h1 h2 h3 f, aI cI h1 3 se, aI cI h2 7 to, aI cI h3 60 re] = w'
set_option maxHeartbeats 4000000 in
set_option maxRecDepth 100000 in
theorem ct_X1_head (l : Launch) (D : va_G) (cI cC cL : ClassId) (h h1 h2 h3 : Nat) (f se to re : Nat → Int32) : ag_MI l yX1_head cX1_head 1 .int 2 43 D cI cC cL [.ref h] [oL h h1 h2 h3 f, aI cI h1 3 se, aI cI h2 7 to, aI cI h3 60 re] (po_X1_head cI cC cL h h1 h2 h3 f se to re) := by
  refine ag_MI.of (plainFor_of_name (by decide)) (Nat.le_of_ble_eq_true rfl) ?_
  intro p e s m below meth c hx hb hr hlocks hml hown hmn hG hK A hN hA H locs hP hD hS ls hl
  have hl : lv_has ls 1 [(0, .ref h)] := hl
  refine lv_aload_n hx hb dX1_head_0 rfl (lv_at hl 0 rfl) ?_
  refine ag_getX1 (v := .int (f 0)) hx hb hG hown hK hP 0 0 rfl (by decide) k_30 rfl dX1_head_1 ?_
  refine ag_callNi (As := [.int (f 0)]) (rest := []) hx hb hml hown hG hK hN hA hP hD hS hl (ct_X5_seaLevel l D cI cC cL (f 0)) fX5_seaLevel hN.1.2.2.2.2.2.2.1 ag_cut_0 rfl (Nat.le_of_ble_eq_true rfl) ⟨Nat.le_of_ble_eq_true rfl, Nat.le_of_ble_eq_true rfl⟩ ⟨Nat.zero_le _, Nat.zero_le _⟩ dX1_head_4 (fun r w1 H locs hw hP hD hS => ?_)
  obtain ⟨rfl, hw⟩ := hw
  subst hw
  have hP : va_P D vwCl [oL h h1 h2 h3 f, aI cI h1 3 se, aI cI h2 7 to, aI cI h3 60 re] H := hP
  have hD : va_D A [oL h h1 h2 h3 f, aI cI h1 3 se, aI cI h2 7 to, aI cI h3 60 re] := hD
  refine lv_aload_n hx hb dX1_head_7 rfl (lv_at hl 0 rfl) ?_
  refine ag_callVi (As := []) (rest := [.int (sr_X5_seaLevel (f 0))]) hx hb hml hown hG hK hN hA hP hD hS hl (ct_X1_level l D cI cC cL h h1 h2 h3 f se to re) fX1_level k_214 ag_cut_all (q0 := 0) rfl rfl rfl rfl (Nat.le_of_ble_eq_true rfl) ⟨Nat.le_of_ble_eq_true rfl, Nat.le_of_ble_eq_true rfl⟩ ⟨Nat.zero_le _, Nat.zero_le _⟩ dX1_head_8 (fun r w1 H locs hw hP hD hS => ?_)
  obtain ⟨rfl, hw⟩ := hw
  subst hw
  have hP : va_P D vwCl [oL h h1 h2 h3 f, aI cI h1 3 se, aI cI h2 7 to, aI cI h3 60 re] H := hP
  have hD : va_D A [oL h h1 h2 h3 f, aI cI h1 3 se, aI cI h2 7 to, aI cI h3 60 re] := hD
  refine lv_isub hx hb dX1_head_11 ?_
  exact ag_iret [h, h1, h2, h3] hx hb hr rfl hlocks hP hS rfl rfl ⟨rfl, rfl⟩ dX1_head_12
def sr_X1_isBirdHour (f : Nat → Int32) : Int32 := if ((f 0) - (f 0) / 144 * 144) < (f 6) then 0 else if (f 7) ≤ ((f 0) - (f 0) / 144 * 144) then 0 else 1
abbrev po_X1_isBirdHour (cI cC cL : ClassId) (h h1 h2 h3 : Nat) (f se to re : Nat → Int32) : Int32 → va_W → Prop := fun r w' => sr_X1_isBirdHour f = r ∧ [oL h h1 h2 h3 f, aI cI h1 3 se, aI cI h2 7 to, aI cI h3 60 re] = w'
set_option maxHeartbeats 4000000 in
set_option maxRecDepth 100000 in
theorem ct_X1_isBirdHour (l : Launch) (D : va_G) (cI cC cL : ClassId) (h h1 h2 h3 : Nat) (f se to re : Nat → Int32) : ag_MI l yX1_isBirdHour cX1_isBirdHour 2 .boolean 0 0 D cI cC cL [.ref h] [oL h h1 h2 h3 f, aI cI h1 3 se, aI cI h2 7 to, aI cI h3 60 re] (po_X1_isBirdHour cI cC cL h h1 h2 h3 f se to re) := by
  refine ag_MI.of (plainFor_of_name (by decide)) (Nat.le_of_ble_eq_true rfl) ?_
  intro p e s m below meth c hx hb hr hlocks hml hown hmn hG hK A hN hA H locs hP hD hS ls hl
  have hl : lv_has ls 2 [(0, .ref h)] := hl
  refine lv_aload_n hx hb dX1_isBirdHour_0 rfl (lv_at hl 0 rfl) ?_
  refine ag_getX1 (v := .int (f 0)) hx hb hG hown hK hP 0 0 rfl (by decide) k_30 rfl dX1_isBirdHour_1 ?_
  refine lv_sipush (v := 144) hx hb dX1_isBirdHour_4 (by decide) ?_
  refine lv_irem hx hb dX1_isBirdHour_7 (by decide) ?_
  refine lv_istore_n (lv' := [(1, .int ((f 0) - (f 0) / 144 * 144)), (0, .ref h)]) hx hb dX1_isBirdHour_8 rfl hl (by decide) rfl (fun ls hl => ?_)
  refine lv_aload_n hx hb dX1_isBirdHour_9 rfl (lv_at hl 1 rfl) ?_
  refine ag_getX1 (v := .int (f 6)) hx hb hG hown hK hP 0 6 rfl (by decide) k_47 rfl dX1_isBirdHour_10 ?_
  refine lv_iload_n hx hb dX1_isBirdHour_13 rfl (lv_at hl 0 rfl) ?_
  refine lv_icmp_gt (tgt := 29) hx hb dX1_isBirdHour_14 (by decide) (fun c_14 => ?_) (fun c_14 => ?_)
  · refine lv_iconst (v := 0) hx hb dX1_isBirdHour_29 (by decide) ?_
    exact ag_iret [h, h1, h2, h3] hx hb hr (by decide) hlocks hP hS rfl rfl ⟨(by unfold sr_X1_isBirdHour; rw [if_pos c_14]), rfl⟩ dX1_isBirdHour_30
  · refine lv_iload_n hx hb dX1_isBirdHour_17 rfl (lv_at hl 0 rfl) ?_
    refine lv_aload_n hx hb dX1_isBirdHour_18 rfl (lv_at hl 1 rfl) ?_
    refine ag_getX1 (v := .int (f 7)) hx hb hG hown hK hP 0 7 rfl (by decide) k_48 rfl dX1_isBirdHour_19 ?_
    refine lv_icmp_ge (tgt := 29) hx hb dX1_isBirdHour_22 (by decide) (fun c_22 => ?_) (fun c_22 => ?_)
    · refine lv_iconst (v := 0) hx hb dX1_isBirdHour_29 (by decide) ?_
      exact ag_iret [h, h1, h2, h3] hx hb hr (by decide) hlocks hP hS rfl rfl ⟨(by unfold sr_X1_isBirdHour; rw [if_neg c_14, if_pos c_22]), rfl⟩ dX1_isBirdHour_30
    · refine lv_iconst (v := 1) hx hb dX1_isBirdHour_25 (by decide) ?_
      refine lv_goto (tgt := 30) hx hb dX1_isBirdHour_26 (by decide) ?_
      exact ag_iret [h, h1, h2, h3] hx hb hr (by decide) hlocks hP hS rfl rfl ⟨(by unfold sr_X1_isBirdHour; rw [if_neg c_14, if_neg c_22]), rfl⟩ dX1_isBirdHour_30
def sr_X1_openGates (f : Nat → Int32) (p1 : Int32) : Int32 := if p1 < 0 then (-1000000001) else if p1 ≤ 8 then f 3 else (-1000000001)
def sw0_X1_openGates (f : Nat → Int32) (p1 : Int32) : Nat → Int32 := if p1 < 0 then f else if p1 ≤ 8 then upd f 3 p1 else f
abbrev po_X1_openGates (cI cC cL : ClassId) (h h1 h2 h3 : Nat) (f se to re : Nat → Int32) (p1 : Int32) : Int32 → va_W → Prop := fun r w' => sr_X1_openGates f p1 = r ∧ [oL h h1 h2 h3 (sw0_X1_openGates f p1), aI cI h1 3 se, aI cI h2 7 to, aI cI h3 60 re] = w'
set_option maxHeartbeats 4000000 in
set_option maxRecDepth 100000 in
theorem ct_X1_openGates (l : Launch) (D : va_G) (cI cC cL : ClassId) (h h1 h2 h3 : Nat) (f se to re : Nat → Int32) (p1 : Int32) : ag_MI l yX1_openGates cX1_openGates 3 .int 0 0 D cI cC cL [.ref h, .int p1] [oL h h1 h2 h3 f, aI cI h1 3 se, aI cI h2 7 to, aI cI h3 60 re] (po_X1_openGates cI cC cL h h1 h2 h3 f se to re p1) := by
  refine ag_MI.of (plainFor_of_name (by decide)) (Nat.le_of_ble_eq_true rfl) ?_
  intro p e s m below meth c hx hb hr hlocks hml hown hmn hG hK A hN hA H locs hP hD hS ls hl
  have hl : lv_has ls 3 [(0, .ref h), (1, .int p1)] := hl
  refine lv_iload_n hx hb dX1_openGates_0 rfl (lv_at hl 1 rfl) ?_
  refine lv_if_lt (tgt := 10) hx hb dX1_openGates_1 (by decide) (fun c_1 => ?_) (fun c_1 => ?_)
  · refine lv_ldc (v := (-1000000001)) hx hb hown (hG _ k_266) dX1_openGates_10 ?_
    exact ag_iret [h, h1, h2, h3] hx hb hr rfl hlocks hP hS rfl rfl ⟨(by unfold sr_X1_openGates; rw [if_pos c_1]), (by show _ = _; rw [show sw0_X1_openGates f p1 = f from (by unfold sw0_X1_openGates; rw [if_pos c_1])])⟩ dX1_openGates_12
  · refine lv_iload_n hx hb dX1_openGates_4 rfl (lv_at hl 1 rfl) ?_
    refine lv_bipush (v := 8) hx hb dX1_openGates_5 (by decide) ?_
    refine lv_icmp_le (tgt := 13) hx hb dX1_openGates_7 (by decide) (fun c_7 => ?_) (fun c_7 => ?_)
    · refine lv_aload_n hx hb dX1_openGates_13 rfl (lv_at hl 0 rfl) ?_
      refine ag_getX1 (v := .int (f 3)) hx hb hG hown hK hP 0 3 rfl (by decide) k_39 rfl dX1_openGates_14 ?_
      refine lv_istore_n (lv' := [(2, .int (f 3)), (0, .ref h), (1, .int p1)]) hx hb dX1_openGates_17 rfl hl (by decide) rfl (fun ls hl => ?_)
      refine lv_aload_n hx hb dX1_openGates_18 rfl (lv_at hl 1 rfl) ?_
      refine lv_iload_n hx hb dX1_openGates_19 rfl (lv_at hl 2 rfl) ?_
      refine ag_putX1 hx hb hG hown hK hP hD hS 0 3 rfl (by decide) k_39 (by decide) rfl rfl (Nat.le_of_ble_eq_true rfl) dX1_openGates_20 (fun H locs hP hD hS => ?_)
      have hP : va_P D vwCl [oL h h1 h2 h3 (upd f 3 p1), aI cI h1 3 se, aI cI h2 7 to, aI cI h3 60 re] H := hP
      have hD : va_D A [oL h h1 h2 h3 (upd f 3 p1), aI cI h1 3 se, aI cI h2 7 to, aI cI h3 60 re] := hD
      refine lv_iload_n hx hb dX1_openGates_23 rfl (lv_at hl 0 rfl) ?_
      exact ag_iret [h, h1, h2, h3] hx hb hr rfl hlocks hP hS rfl rfl ⟨(by unfold sr_X1_openGates; rw [if_neg c_1, if_pos c_7]), (by show _ = _; rw [show sw0_X1_openGates f p1 = upd f 3 p1 from (by unfold sw0_X1_openGates; rw [if_neg c_1, if_pos c_7])])⟩ dX1_openGates_24
    · refine lv_ldc (v := (-1000000001)) hx hb hown (hG _ k_266) dX1_openGates_10 ?_
      exact ag_iret [h, h1, h2, h3] hx hb hr rfl hlocks hP hS rfl rfl ⟨(by unfold sr_X1_openGates; rw [if_neg c_1, if_neg c_7]), (by show _ = _; rw [show sw0_X1_openGates f p1 = f from (by unfold sw0_X1_openGates; rw [if_neg c_1, if_neg c_7])])⟩ dX1_openGates_12
