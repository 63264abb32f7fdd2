/-! the law: its small methods -/
theorem fL_cell : ag_fS yL_cell cL_cell 2 (some .int) 2 := ⟨k_241, k_240, k_6, by decide, by decide, by decide +kernel⟩
theorem fL_low : ag_fS yL_low cL_low 2 (some .int) 2 := ⟨k_245, k_244, k_6, by decide, by decide, by decide +kernel⟩
theorem fL_sea : ag_fS yL_sea cL_sea 4 (some .int) 1 := ⟨k_389, k_388, k_6, by decide, by decide, by decide +kernel⟩
theorem fL_level : ag_fS yL_level cL_level 1 (some .int) 1 := ⟨k_392, k_391, k_6, by decide, by decide, by decide +kernel⟩
theorem fL_size : ag_fS yL_size cL_size 1 (some .int) 1 := ⟨k_398, k_397, k_6, by decide, by decide, by decide +kernel⟩
theorem fL_birds : ag_fS yL_birds cL_birds 1 (some .boolean) 1 := ⟨k_395, k_394, k_6, by decide, by decide, by decide +kernel⟩
theorem fL_weigh : ag_fS yL_weigh cL_weigh 6 none 2 := ⟨k_386, k_385, k_6, by decide, by decide, by decide +kernel⟩
theorem fL_run : ag_fS yL_run cL_run 9 none 4 := ⟨k_383, k_382, k_6, by decide, by decide, by decide +kernel⟩
theorem fL_acts : ag_fS yL_acts cL_acts 9 (some .boolean) 5 := ⟨k_249, k_248, k_6, by decide, by decide, by decide +kernel⟩
theorem fL_areRecords : ag_fS yL_areRecords cL_areRecords 12 (some .boolean) 4 := ⟨k_405, k_404, k_6, by decide, by decide, by decide +kernel⟩
theorem fL_isSo : ag_fS yL_isSo cL_isSo 7 (some .boolean) 4 := ⟨k_402, k_401, k_6, by decide, by decide, by decide +kernel⟩
def sr_L_low (p1 : Int32) (p2 : Int32) : Int32 := (p1 &&& 2147483647) - (p1 &&& 2147483647) / p2 * p2
abbrev po_L_low (cI cC cL : ClassId) (p1 : Int32) (p2 : Int32) (hz : ¬ p2 = 0) : Int32 → va_W → Prop := fun r w' => sr_L_low p1 p2 = r ∧ [] = w'
set_option maxHeartbeats 4000000 in
set_option maxRecDepth 100000 in
theorem ct_L_low (l : Launch) (D : va_G) (cI cC cL : ClassId) (p1 : Int32) (p2 : Int32) (hz : ¬ p2 = 0) : ag_MI l yL_low cL_low 2 .int 0 0 D cI cC cL [.int p1, .int p2] [] (po_L_low cI cC cL p1 p2 hz) := by
  refine ag_MI.of (plainFor_of_name (by decide)) (Nat.le_of_ble_eq_true rfl) ?_
  intro p e s m below meth c hx hb hr hlocks hml hown hmn hG hK A hN hA H locs hP hD hS ls hl
  have hl : lv_has ls 2 [(0, .int p1), (1, .int p2)] := hl
  refine lv_iload_n hx hb dL_low_0 rfl (lv_at hl 0 rfl) ?_
  refine lv_ldc (v := 2147483647) hx hb hown (hG _ k_246) dL_low_1 ?_
  refine lv_iand hx hb dL_low_3 ?_
  refine lv_iload_n hx hb dL_low_4 rfl (lv_at hl 1 rfl) ?_
  refine lv_irem hx hb dL_low_5 hz ?_
  exact ag_iret [] hx hb hr rfl hlocks hP hS rfl rfl ⟨rfl, rfl⟩ dL_low_6
def j31_0_L_sea (p1 : Int32) : Int32 := if ((p1 / 144) - (p1 / 144) / 14 * 14) ≤ 7 then 7 - ((p1 / 144) - (p1 / 144) / 14 * 14) else ((p1 / 144) - (p1 / 144) / 14 * 14) - 7
def sr_L_sea (p1 : Int32) : Int32 := if 37 ≤ (p1 - p1 / 74 * 74) then (200 + (20 * (j31_0_L_sea p1))) - (((2 * (200 + (20 * (j31_0_L_sea p1)))) * ((p1 - p1 / 74 * 74) - 37)) / 37) else (((2 * (200 + (20 * (j31_0_L_sea p1)))) * (p1 - p1 / 74 * 74)) / 37) - (200 + (20 * (j31_0_L_sea p1)))
abbrev po_L_sea (cI cC cL : ClassId) (p1 : Int32) : Int32 → va_W → Prop := fun r w' => sr_L_sea p1 = r ∧ [] = w'
set_option maxHeartbeats 4000000 in
set_option maxRecDepth 100000 in
theorem ct_L_sea (l : Launch) (D : va_G) (cI cC cL : ClassId) (p1 : Int32) : ag_MI l yL_sea cL_sea 4 .int 0 0 D cI cC cL [.int p1] [] (po_L_sea cI cC cL p1) := by
  refine ag_MI.of (plainFor_of_name (by decide)) (Nat.le_of_ble_eq_true rfl) ?_
  intro p e s m below meth c hx hb hr hlocks hml hown hmn hG hK A hN hA H locs hP hD hS ls hl
  have hl : lv_has ls 4 [(0, .int p1)] := hl
  refine lv_iload_n hx hb dL_sea_0 rfl (lv_at hl 0 rfl) ?_
  refine lv_sipush (v := 144) hx hb dL_sea_1 (by decide) ?_
  refine lv_idiv hx hb dL_sea_4 (by decide) ?_
  refine lv_bipush (v := 14) hx hb dL_sea_5 (by decide) ?_
  refine lv_irem hx hb dL_sea_7 (by decide) ?_
  refine lv_istore_n (lv' := [(1, .int ((p1 / 144) - (p1 / 144) / 14 * 14)), (0, .int p1)]) hx hb dL_sea_8 rfl hl (by decide) rfl (fun ls hl => ?_)
  refine lv_sipush (v := 200) hx hb dL_sea_9 (by decide) ?_
  refine lv_bipush (v := 20) hx hb dL_sea_12 (by decide) ?_
  refine lv_iload_n hx hb dL_sea_14 rfl (lv_at hl 0 rfl) ?_
  refine lv_bipush (v := 7) hx hb dL_sea_15 (by decide) ?_
  have J31 : ∀ (ls : Array Slot), lv_has ls 4 [(0, .int p1), (1, .int ((p1 / 144) - (p1 / 144) / 14 * 14))] → W p l e (ag_rm 0 0) s m ([.int p1] : List Value).toArray below meth c H locs 0 0 (MQ below (va_Qi (po_L_sea cI cC cL p1) (ag_Out D []) A) ([.int p1] : List Value).toArray s 0 0 A) (F0 m 31 ls [.int (j31_0_L_sea p1), .int 20, .int 200]) := by
    intro ls hl
    refine lv_imul hx hb dL_sea_31 ?_
    refine lv_iadd hx hb dL_sea_32 ?_
    refine lv_istore_n (lv' := [(2, .int (200 + (20 * (j31_0_L_sea p1)))), (0, .int p1), (1, .int ((p1 / 144) - (p1 / 144) / 14 * 14))]) hx hb dL_sea_33 rfl hl (by decide) rfl (fun ls hl => ?_)
    refine lv_iload_n hx hb dL_sea_34 rfl (lv_at hl 1 rfl) ?_
    refine lv_bipush (v := 74) hx hb dL_sea_35 (by decide) ?_
    refine lv_irem hx hb dL_sea_37 (by decide) ?_
    refine lv_istore_n (lv' := [(3, .int (p1 - p1 / 74 * 74)), (2, .int (200 + (20 * (j31_0_L_sea p1)))), (0, .int p1), (1, .int ((p1 / 144) - (p1 / 144) / 14 * 14))]) hx hb dL_sea_38 rfl hl (by decide) rfl (fun ls hl => ?_)
    refine lv_iload_n hx hb dL_sea_39 rfl (lv_at hl 0 rfl) ?_
    refine lv_bipush (v := 37) hx hb dL_sea_40 (by decide) ?_
    refine lv_icmp_ge (tgt := 58) hx hb dL_sea_42 (by decide) (fun c_42 => ?_) (fun c_42 => ?_)
    · refine lv_iload_n hx hb dL_sea_58 rfl (lv_at hl 1 rfl) ?_
      refine lv_iconst (v := 2) hx hb dL_sea_59 (by decide) ?_
      refine lv_iload_n hx hb dL_sea_60 rfl (lv_at hl 1 rfl) ?_
      refine lv_imul hx hb dL_sea_61 ?_
      refine lv_iload_n hx hb dL_sea_62 rfl (lv_at hl 0 rfl) ?_
      refine lv_bipush (v := 37) hx hb dL_sea_63 (by decide) ?_
      refine lv_isub hx hb dL_sea_65 ?_
      refine lv_imul hx hb dL_sea_66 ?_
      refine lv_bipush (v := 37) hx hb dL_sea_67 (by decide) ?_
      refine lv_idiv hx hb dL_sea_69 (by decide) ?_
      refine lv_isub hx hb dL_sea_70 ?_
      exact ag_iret [] hx hb hr rfl hlocks hP hS rfl rfl ⟨(by unfold sr_L_sea; rw [if_pos c_42]), rfl⟩ dL_sea_71
    · refine lv_iconst (v := 2) hx hb dL_sea_45 (by decide) ?_
      refine lv_iload_n hx hb dL_sea_46 rfl (lv_at hl 1 rfl) ?_
      refine lv_imul hx hb dL_sea_47 ?_
      refine lv_iload_n hx hb dL_sea_48 rfl (lv_at hl 0 rfl) ?_
      refine lv_imul hx hb dL_sea_49 ?_
      refine lv_bipush (v := 37) hx hb dL_sea_50 (by decide) ?_
      refine lv_idiv hx hb dL_sea_52 (by decide) ?_
      refine lv_iload_n hx hb dL_sea_53 rfl (lv_at hl 1 rfl) ?_
      refine lv_isub hx hb dL_sea_54 ?_
      refine lv_goto (tgt := 71) hx hb dL_sea_55 (by decide) ?_
      exact ag_iret [] hx hb hr rfl hlocks hP hS rfl rfl ⟨(by unfold sr_L_sea; rw [if_neg c_42]), rfl⟩ dL_sea_71
  refine lv_icmp_le (tgt := 27) hx hb dL_sea_17 (by decide) (fun c_17 => ?_) (fun c_17 => ?_)
  · refine lv_bipush (v := 7) hx hb dL_sea_27 (by decide) ?_
    refine lv_iload_n hx hb dL_sea_29 rfl (lv_at hl 0 rfl) ?_
    refine lv_isub hx hb dL_sea_30 ?_
    simp only [j31_0_L_sea, if_pos c_17] at J31
    exact J31 _ (lv_sub hl [1, 0] rfl)
  · refine lv_iload_n hx hb dL_sea_20 rfl (lv_at hl 0 rfl) ?_
    refine lv_bipush (v := 7) hx hb dL_sea_21 (by decide) ?_
    refine lv_isub hx hb dL_sea_23 ?_
    refine lv_goto (tgt := 31) hx hb dL_sea_24 (by decide) ?_
    simp only [j31_0_L_sea, if_neg c_17] at J31
    exact J31 _ (lv_sub hl [1, 0] rfl)
def sr_L_level (ug : Nat → Int32) : Int32 := (((ug 1) + (ug 2)) / 100) - 400
abbrev po_L_level (cI cC cL : ClassId) (ag : Nat) (ug : Nat → Int32) : Int32 → va_W → Prop := fun r w' => sr_L_level ug = r ∧ [aI cI ag 18 ug] = w'
set_option maxHeartbeats 4000000 in
set_option maxRecDepth 100000 in
theorem ct_L_level (l : Launch) (D : va_G) (cI cC cL : ClassId) (ag : Nat) (ug : Nat → Int32) : ag_MI l yL_level cL_level 1 .int 0 0 D cI cC cL [.ref ag] [aI cI ag 18 ug] (po_L_level cI cC cL ag ug) := by
  refine ag_MI.of (plainFor_of_name (by decide)) (Nat.le_of_ble_eq_true rfl) ?_
  intro p e s m below meth c hx hb hr hlocks hml hown hmn hG hK A hN hA H locs hP hD hS ls hl
  have hl : lv_has ls 1 [(0, .ref ag)] := hl
  refine lv_aload_n hx hb dL_level_0 rfl (lv_at hl 0 rfl) ?_
  refine lv_iconst (v := 1) hx hb dL_level_1 (by decide) ?_
  refine ag_ild (k := 1) (v := ug 1) hx hb hK hP 0 rfl rfl (Nat.le_of_ble_eq_true rfl) (Nat.le_of_ble_eq_true rfl) rfl dL_level_2 ?_
  refine lv_aload_n hx hb dL_level_3 rfl (lv_at hl 0 rfl) ?_
  refine lv_iconst (v := 2) hx hb dL_level_4 (by decide) ?_
  refine ag_ild (k := 2) (v := ug 2) hx hb hK hP 0 rfl rfl (Nat.le_of_ble_eq_true rfl) (Nat.le_of_ble_eq_true rfl) rfl dL_level_5 ?_
  refine lv_iadd hx hb dL_level_6 ?_
  refine lv_bipush (v := 100) hx hb dL_level_7 (by decide) ?_
  refine lv_idiv hx hb dL_level_9 (by decide) ?_
  refine lv_sipush (v := 400) hx hb dL_level_10 (by decide) ?_
  refine lv_isub hx hb dL_level_13 ?_
  exact ag_iret [ag] hx hb hr rfl hlocks hP hS rfl rfl ⟨rfl, rfl⟩ dL_level_14
def sr_L_size (p1 : Int32) : Int32 := if p1 ≤ 0 then -p1 else p1
abbrev po_L_size (cI cC cL : ClassId) (p1 : Int32) : Int32 → va_W → Prop := fun r w' => sr_L_size p1 = r ∧ [] = w'
set_option maxHeartbeats 4000000 in
set_option maxRecDepth 100000 in
theorem ct_L_size (l : Launch) (D : va_G) (cI cC cL : ClassId) (p1 : Int32) : ag_MI l yL_size cL_size 1 .int 0 0 D cI cC cL [.int p1] [] (po_L_size cI cC cL p1) := by
  refine ag_MI.of (plainFor_of_name (by decide)) (Nat.le_of_ble_eq_true rfl) ?_
  intro p e s m below meth c hx hb hr hlocks hml hown hmn hG hK A hN hA H locs hP hD hS ls hl
  have hl : lv_has ls 1 [(0, .int p1)] := hl
  refine lv_iload_n hx hb dL_size_0 rfl (lv_at hl 0 rfl) ?_
  refine lv_if_le (tgt := 8) hx hb dL_size_1 (by decide) (fun c_1 => ?_) (fun c_1 => ?_)
  · refine lv_iload_n hx hb dL_size_8 rfl (lv_at hl 0 rfl) ?_
    refine lv_ineg hx hb dL_size_9 ?_
    exact ag_iret [] hx hb hr rfl hlocks hP hS rfl rfl ⟨(by unfold sr_L_size; rw [if_pos c_1]), rfl⟩ dL_size_10
  · refine lv_iload_n hx hb dL_size_4 rfl (lv_at hl 0 rfl) ?_
    refine lv_goto (tgt := 10) hx hb dL_size_5 (by decide) ?_
    exact ag_iret [] hx hb hr rfl hlocks hP hS rfl rfl ⟨(by unfold sr_L_size; rw [if_neg c_1]), rfl⟩ dL_size_10
def sr_L_birds (ug : Nat → Int32) : Int32 := if ((ug 0) - (ug 0) / 144 * 144) < (ug 6) then 0 else if (ug 7) ≤ ((ug 0) - (ug 0) / 144 * 144) then 0 else 1
abbrev po_L_birds (cI cC cL : ClassId) (ag : Nat) (ug : Nat → Int32) : Int32 → va_W → Prop := fun r w' => sr_L_birds ug = r ∧ [aI cI ag 18 ug] = w'
set_option maxHeartbeats 4000000 in
set_option maxRecDepth 100000 in
theorem ct_L_birds (l : Launch) (D : va_G) (cI cC cL : ClassId) (ag : Nat) (ug : Nat → Int32) : ag_MI l yL_birds cL_birds 1 .boolean 0 0 D cI cC cL [.ref ag] [aI cI ag 18 ug] (po_L_birds cI cC cL ag ug) := by
  refine ag_MI.of (plainFor_of_name (by decide)) (Nat.le_of_ble_eq_true rfl) ?_
  intro p e s m below meth c hx hb hr hlocks hml hown hmn hG hK A hN hA H locs hP hD hS ls hl
  have hl : lv_has ls 1 [(0, .ref ag)] := hl
  refine lv_aload_n hx hb dL_birds_0 rfl (lv_at hl 0 rfl) ?_
  refine lv_iconst (v := 0) hx hb dL_birds_1 (by decide) ?_
  refine ag_ild (k := 0) (v := ug 0) hx hb hK hP 0 rfl rfl (Nat.le_of_ble_eq_true rfl) (Nat.le_of_ble_eq_true rfl) rfl dL_birds_2 ?_
  refine lv_sipush (v := 144) hx hb dL_birds_3 (by decide) ?_
  refine lv_irem hx hb dL_birds_6 (by decide) ?_
  refine lv_aload_n hx hb dL_birds_7 rfl (lv_at hl 0 rfl) ?_
  refine lv_bipush (v := 6) hx hb dL_birds_8 (by decide) ?_
  refine ag_ild (k := 6) (v := ug 6) hx hb hK hP 0 rfl rfl (Nat.le_of_ble_eq_true rfl) (Nat.le_of_ble_eq_true rfl) rfl dL_birds_10 ?_
  refine lv_icmp_lt (tgt := 32) hx hb dL_birds_11 (by decide) (fun c_11 => ?_) (fun c_11 => ?_)
  · refine lv_iconst (v := 0) hx hb dL_birds_32 (by decide) ?_
    exact ag_iret [ag] hx hb hr (by decide) hlocks hP hS rfl rfl ⟨(by unfold sr_L_birds; rw [if_pos c_11]), rfl⟩ dL_birds_33
  · refine lv_aload_n hx hb dL_birds_14 rfl (lv_at hl 0 rfl) ?_
    refine lv_iconst (v := 0) hx hb dL_birds_15 (by decide) ?_
    refine ag_ild (k := 0) (v := ug 0) hx hb hK hP 0 rfl rfl (Nat.le_of_ble_eq_true rfl) (Nat.le_of_ble_eq_true rfl) rfl dL_birds_16 ?_
    refine lv_sipush (v := 144) hx hb dL_birds_17 (by decide) ?_
    refine lv_irem hx hb dL_birds_20 (by decide) ?_
    refine lv_aload_n hx hb dL_birds_21 rfl (lv_at hl 0 rfl) ?_
    refine lv_bipush (v := 7) hx hb dL_birds_22 (by decide) ?_
    refine ag_ild (k := 7) (v := ug 7) hx hb hK hP 0 rfl rfl (Nat.le_of_ble_eq_true rfl) (Nat.le_of_ble_eq_true rfl) rfl dL_birds_24 ?_
    refine lv_icmp_ge (tgt := 32) hx hb dL_birds_25 (by decide) (fun c_25 => ?_) (fun c_25 => ?_)
    · refine lv_iconst (v := 0) hx hb dL_birds_32 (by decide) ?_
      exact ag_iret [ag] hx hb hr (by decide) hlocks hP hS rfl rfl ⟨(by unfold sr_L_birds; rw [if_neg c_11, if_pos c_25]), rfl⟩ dL_birds_33
    · refine lv_iconst (v := 1) hx hb dL_birds_28 (by decide) ?_
      refine lv_goto (tgt := 33) hx hb dL_birds_29 (by decide) ?_
      exact ag_iret [ag] hx hb hr (by decide) hlocks hP hS rfl rfl ⟨(by unfold sr_L_birds; rw [if_neg c_11, if_neg c_25]), rfl⟩ dL_birds_33
def j32_0_L_weigh (ug : Nat → Int32) : Int32 := if (sr_L_birds ug) = 0 then (2 * (ug 3)) * ((sr_L_sea (ug 0)) - (sr_L_level ug)) else 0
def xv32_1_L_weigh (ug : Nat → Int32) : Int32 := j32_0_L_weigh ug
def j55_0_L_weigh (ug : Nat → Int32) : Int32 := if (ug 8) ≤ (sr_L_size ((sr_L_sea (ug 0)) - (sr_L_level ug))) then (ug 4) * ((sr_L_sea (ug 0)) - (sr_L_level ug)) else 0
def xv55_2_L_weigh (ug : Nat → Int32) : Int32 := j55_0_L_weigh ug
def j83_0_L_weigh (ug : Nat → Int32) : Int32 := if (sr_L_birds ug) = 0 then if (sr_L_size ((sr_L_sea (ug 0)) - (sr_L_level ug))) ≤ (ug 9) then ug 5 else 0 else 0
def xv83_3_L_weigh (ug : Nat → Int32) : Int32 := j83_0_L_weigh ug
def xv100_4_L_weigh (ug : Nat → Int32) : Int32 := ((sr_L_size (xv55_2_L_weigh ug)) * (sr_L_size ((sr_L_sea (ug 0)) - (sr_L_level ug)))) / 100
def xv120_5_L_weigh (ug : Nat → Int32) : Int32 := ((sr_L_size (xv83_3_L_weigh ug)) * (20 + (sr_L_size ((sr_L_sea (ug 0)) - (sr_L_level ug))))) / 100
def j159_0_L_weigh (ug : Nat → Int32) : Int32 := if ((((ug 1) + (xv32_1_L_weigh ug)) + (xv55_2_L_weigh ug)) + (xv83_3_L_weigh ug)) ≤ 80000 then if 0 ≤ ((((ug 1) + (xv32_1_L_weigh ug)) + (xv55_2_L_weigh ug)) + (xv83_3_L_weigh ug)) then (((ug 1) + (xv32_1_L_weigh ug)) + (xv55_2_L_weigh ug)) + (xv83_3_L_weigh ug) else 0 else 80000
def xv163_6_L_weigh (ug : Nat → Int32) : Int32 := (j159_0_L_weigh ug) - (ug 1)
def j250_0_L_weigh (ug : Nat → Int32) : Int32 := if ((sr_L_size (xv163_6_L_weigh ug)) / 20) ≤ (ug 2) then (sr_L_size (xv163_6_L_weigh ug)) / 20 else ug 2
def j251_0_L_weigh (ug : Nat → Int32) : Int32 := if (xv163_6_L_weigh ug) ≤ 0 then if (xv163_6_L_weigh ug) ≤ (-(ug 10)) then -(j250_0_L_weigh ug) else 0 else if ((ug 2) + ((xv163_6_L_weigh ug) / 50)) ≤ 20000 then (xv163_6_L_weigh ug) / 50 else 20000 - (ug 2)
def xv251_7_L_weigh (ug : Nat → Int32) : Int32 := j251_0_L_weigh ug
def sw1_L_weigh (ug : Nat → Int32) (uf : Nat → Int32) : Nat → Int32 := upd (upd (upd (upd (upd (upd (upd uf 0 (xv32_1_L_weigh ug)) 1 (xv55_2_L_weigh ug)) 2 (xv83_3_L_weigh ug)) 4 (xv100_4_L_weigh ug)) 5 (xv120_5_L_weigh ug)) 3 (xv163_6_L_weigh ug)) 6 (xv251_7_L_weigh ug)
abbrev po_L_weigh (cI cC cL : ClassId) (ag af : Nat) (ug uf : Nat → Int32) : va_W → Prop := fun w' => [aI cI ag 18 ug, aI cI af 7 (sw1_L_weigh ug uf)] = w'
set_option maxHeartbeats 4000000 in
set_option maxRecDepth 100000 in
theorem ct_L_weigh (l : Launch) (D : va_G) (cI cC cL : ClassId) (ag af : Nat) (ug uf : Nat → Int32) : ag_MV l yL_weigh cL_weigh 6 1 23 D cI cC cL [.ref ag, .ref af] [aI cI ag 18 ug, aI cI af 7 uf] (po_L_weigh cI cC cL ag af ug uf) := by
  refine ag_MV.of (plainFor_of_name (by decide)) (Nat.le_of_ble_eq_true rfl) ?_
  intro p e s m below meth c hx hb hr hlocks hml hown hmn hG hK A hN hA H locs hP hD hS ls hl
  have hl : lv_has ls 6 [(0, .ref ag), (1, .ref af)] := hl
  refine lv_aload_n hx hb dL_weigh_0 rfl (lv_at hl 0 rfl) ?_
  refine lv_iconst (v := 0) hx hb dL_weigh_1 (by decide) ?_
  refine ag_ild (k := 0) (v := ug 0) hx hb hK hP 0 rfl rfl (Nat.le_of_ble_eq_true rfl) (Nat.le_of_ble_eq_true rfl) rfl dL_weigh_2 ?_
  refine ag_callSi (As := [.int (ug 0)]) (rest := []) hx hb hml hown hG hK hN hA hP hD hS hl (ct_L_sea l D cI cC cL (ug 0)) fL_sea k_387 ag_cut_0 rfl (Nat.le_of_ble_eq_true rfl) ⟨Nat.le_of_ble_eq_true rfl, Nat.le_of_ble_eq_true rfl⟩ ⟨Nat.zero_le _, Nat.zero_le _⟩ dL_weigh_3 (fun r w1 H locs hw hP hD hS => ?_)
  obtain ⟨rfl, hw⟩ := hw
  subst hw
  have hP : va_P D vwCl [aI cI ag 18 ug, aI cI af 7 uf] H := hP
  have hD : va_D A [aI cI ag 18 ug, aI cI af 7 uf] := hD
  refine lv_aload_n hx hb dL_weigh_6 rfl (lv_at hl 0 rfl) ?_
  refine ag_callSi (As := [.ref ag]) (rest := [.int (sr_L_sea (ug 0))]) hx hb hml hown hG hK hN hA hP hD hS hl (ct_L_level l D cI cC cL ag ug) fL_level k_390 (ag_cut_1 [] [aI cI af 7 uf] rfl) rfl (Nat.le_of_ble_eq_true rfl) ⟨Nat.le_of_ble_eq_true rfl, Nat.le_of_ble_eq_true rfl⟩ ⟨Nat.zero_le _, Nat.zero_le _⟩ dL_weigh_7 (fun r w1 H locs hw hP hD hS => ?_)
  obtain ⟨rfl, hw⟩ := hw
  subst hw
  have hP : va_P D vwCl [aI cI ag 18 ug, aI cI af 7 uf] H := hP
  have hD : va_D A [aI cI ag 18 ug, aI cI af 7 uf] := hD
  refine lv_isub hx hb dL_weigh_10 ?_
  refine lv_istore_n (lv' := [(2, .int ((sr_L_sea (ug 0)) - (sr_L_level ug))), (0, .ref ag), (1, .ref af)]) hx hb dL_weigh_11 rfl hl (by decide) rfl (fun ls hl => ?_)
  refine lv_aload_n hx hb dL_weigh_12 rfl (lv_at hl 2 rfl) ?_
  refine lv_iconst (v := 0) hx hb dL_weigh_13 (by decide) ?_
  refine lv_aload_n hx hb dL_weigh_14 rfl (lv_at hl 1 rfl) ?_
  refine ag_callSi (As := [.ref ag]) (rest := [.int 0, .ref af]) hx hb hml hown hG hK hN hA hP hD hS hl (ct_L_birds l D cI cC cL ag ug) fL_birds k_393 (ag_cut_1 [] [aI cI af 7 uf] rfl) rfl (Nat.le_of_ble_eq_true rfl) ⟨Nat.le_of_ble_eq_true rfl, Nat.le_of_ble_eq_true rfl⟩ ⟨Nat.zero_le _, Nat.zero_le _⟩ dL_weigh_15 (fun r w1 H locs hw hP hD hS => ?_)
  obtain ⟨rfl, hw⟩ := hw
  subst hw
  have hP : va_P D vwCl [aI cI ag 18 ug, aI cI af 7 uf] H := hP
  have hD : va_D A [aI cI ag 18 ug, aI cI af 7 uf] := hD
  have J32 : ∀ (ls : Array Slot), lv_has ls 6 [(0, .ref ag), (1, .ref af), (2, .int ((sr_L_sea (ug 0)) - (sr_L_level ug)))] → W p l e (ag_rm 1 23) s m ([.ref ag, .ref af] : List Value).toArray below meth c H locs 0 0 (MQ below (va_Qv (po_L_weigh cI cC cL ag af ug uf) (ag_Out D [aI cI ag 18 ug, aI cI af 7 uf]) A) ([.ref ag, .ref af] : List Value).toArray s 0 0 A) (F0 m 32 ls [.int (j32_0_L_weigh ug), .int 0, .ref af]) := by
    intro ls hl
    refine ag_topn (v := xv32_1_L_weigh ug) rfl (fun x32_1 ex32_1 => ?_)
    refine ag_ist (k := 0) hx hb hK hP hD hS 1 rfl rfl (Nat.le_of_ble_eq_true rfl) (Nat.le_of_ble_eq_true rfl) dL_weigh_32 (fun H locs hP hD hS => ?_)
    have hP : va_P D vwCl [aI cI ag 18 ug, aI cI af 7 (upd uf 0 x32_1)] H := hP
    have hD : va_D A [aI cI ag 18 ug, aI cI af 7 (upd uf 0 x32_1)] := hD
    refine lv_aload_n hx hb dL_weigh_33 rfl (lv_at hl 1 rfl) ?_
    refine lv_iconst (v := 1) hx hb dL_weigh_34 (by decide) ?_
    refine lv_iload_n hx hb dL_weigh_35 rfl (lv_at hl 2 rfl) ?_
    refine ag_callSi (As := [.int ((sr_L_sea (ug 0)) - (sr_L_level ug))]) (rest := [.int 1, .ref af]) hx hb hml hown hG hK hN hA hP hD hS hl (ct_L_size l D cI cC cL ((sr_L_sea (ug 0)) - (sr_L_level ug))) fL_size k_396 ag_cut_0 rfl (Nat.le_of_ble_eq_true rfl) ⟨Nat.le_of_ble_eq_true rfl, Nat.le_of_ble_eq_true rfl⟩ ⟨Nat.zero_le _, Nat.zero_le _⟩ dL_weigh_36 (fun r w1 H locs hw hP hD hS => ?_)
    obtain ⟨rfl, hw⟩ := hw
    subst hw
    have hP : va_P D vwCl [aI cI ag 18 ug, aI cI af 7 (upd uf 0 x32_1)] H := hP
    have hD : va_D A [aI cI ag 18 ug, aI cI af 7 (upd uf 0 x32_1)] := hD
    refine lv_aload_n hx hb dL_weigh_39 rfl (lv_at hl 0 rfl) ?_
    refine lv_bipush (v := 8) hx hb dL_weigh_40 (by decide) ?_
    refine ag_ild (k := 8) (v := ug 8) hx hb hK hP 0 rfl rfl (Nat.le_of_ble_eq_true rfl) (Nat.le_of_ble_eq_true rfl) rfl dL_weigh_42 ?_
    have J55 : ∀ (ls : Array Slot), lv_has ls 6 [(0, .ref ag), (1, .ref af), (2, .int ((sr_L_sea (ug 0)) - (sr_L_level ug)))] → W p l e (ag_rm 1 23) s m ([.ref ag, .ref af] : List Value).toArray below meth c H locs 0 0 (MQ below (va_Qv (po_L_weigh cI cC cL ag af ug uf) (ag_Out D [aI cI ag 18 ug, aI cI af 7 uf]) A) ([.ref ag, .ref af] : List Value).toArray s 0 0 A) (F0 m 55 ls [.int (j55_0_L_weigh ug), .int 1, .ref af]) := by
      intro ls hl
      refine ag_topn (v := xv55_2_L_weigh ug) rfl (fun x55_2 ex55_2 => ?_)
      refine ag_ist (k := 1) hx hb hK hP hD hS 1 rfl rfl (Nat.le_of_ble_eq_true rfl) (Nat.le_of_ble_eq_true rfl) dL_weigh_55 (fun H locs hP hD hS => ?_)
      have hP : va_P D vwCl [aI cI ag 18 ug, aI cI af 7 (upd (upd uf 0 x32_1) 1 x55_2)] H := hP
      have hD : va_D A [aI cI ag 18 ug, aI cI af 7 (upd (upd uf 0 x32_1) 1 x55_2)] := hD
      refine lv_aload_n hx hb dL_weigh_56 rfl (lv_at hl 1 rfl) ?_
      refine lv_iconst (v := 2) hx hb dL_weigh_57 (by decide) ?_
      refine lv_aload_n hx hb dL_weigh_58 rfl (lv_at hl 0 rfl) ?_
      refine ag_callSi (As := [.ref ag]) (rest := [.int 2, .ref af]) hx hb hml hown hG hK hN hA hP hD hS hl (ct_L_birds l D cI cC cL ag ug) fL_birds k_393 (ag_cut_1 [] [aI cI af 7 (upd (upd uf 0 x32_1) 1 x55_2)] rfl) rfl (Nat.le_of_ble_eq_true rfl) ⟨Nat.le_of_ble_eq_true rfl, Nat.le_of_ble_eq_true rfl⟩ ⟨Nat.zero_le _, Nat.zero_le _⟩ dL_weigh_59 (fun r w1 H locs hw hP hD hS => ?_)
      obtain ⟨rfl, hw⟩ := hw
      subst hw
      have hP : va_P D vwCl [aI cI ag 18 ug, aI cI af 7 (upd (upd uf 0 x32_1) 1 x55_2)] H := hP
      have hD : va_D A [aI cI ag 18 ug, aI cI af 7 (upd (upd uf 0 x32_1) 1 x55_2)] := hD
      have J83 : ∀ (H : Heap) (locs : List Loc), va_P D vwCl [aI cI ag 18 ug, aI cI af 7 (upd (upd uf 0 x32_1) 1 x55_2)] H → va_D A [aI cI ag 18 ug, aI cI af 7 (upd (upd uf 0 x32_1) 1 x55_2)] → va_S A s.heap H locs → ∀ (ls : Array Slot), lv_has ls 6 [(0, .ref ag), (1, .ref af), (2, .int ((sr_L_sea (ug 0)) - (sr_L_level ug)))] → W p l e (ag_rm 1 23) s m ([.ref ag, .ref af] : List Value).toArray below meth c H locs 0 0 (MQ below (va_Qv (po_L_weigh cI cC cL ag af ug uf) (ag_Out D [aI cI ag 18 ug, aI cI af 7 uf]) A) ([.ref ag, .ref af] : List Value).toArray s 0 0 A) (F0 m 83 ls [.int (j83_0_L_weigh ug), .int 2, .ref af]) := by
        intro H locs hP hD hS ls hl
        refine ag_topn (v := xv83_3_L_weigh ug) rfl (fun x83_3 ex83_3 => ?_)
        refine ag_ist (k := 2) hx hb hK hP hD hS 1 rfl rfl (Nat.le_of_ble_eq_true rfl) (Nat.le_of_ble_eq_true rfl) dL_weigh_83 (fun H locs hP hD hS => ?_)
        have hP : va_P D vwCl [aI cI ag 18 ug, aI cI af 7 (upd (upd (upd uf 0 x32_1) 1 x55_2) 2 x83_3)] H := hP
        have hD : va_D A [aI cI ag 18 ug, aI cI af 7 (upd (upd (upd uf 0 x32_1) 1 x55_2) 2 x83_3)] := hD
        refine lv_aload_n hx hb dL_weigh_84 rfl (lv_at hl 1 rfl) ?_
        refine lv_iconst (v := 4) hx hb dL_weigh_85 (by decide) ?_
        refine lv_aload_n hx hb dL_weigh_86 rfl (lv_at hl 1 rfl) ?_
        refine lv_iconst (v := 1) hx hb dL_weigh_87 (by decide) ?_
        refine ag_ild (k := 1) (v := x55_2) hx hb hK hP 1 rfl rfl (Nat.le_of_ble_eq_true rfl) (Nat.le_of_ble_eq_true rfl) rfl dL_weigh_88 ?_
        refine ag_callSi (As := [.int x55_2]) (rest := [.int 4, .ref af]) hx hb hml hown hG hK hN hA hP hD hS hl (ct_L_size l D cI cC cL x55_2) fL_size k_396 ag_cut_0 rfl (Nat.le_of_ble_eq_true rfl) ⟨Nat.le_of_ble_eq_true rfl, Nat.le_of_ble_eq_true rfl⟩ ⟨Nat.zero_le _, Nat.zero_le _⟩ dL_weigh_89 (fun r w1 H locs hw hP hD hS => ?_)
        obtain ⟨rfl, hw⟩ := hw
        subst hw
        have hP : va_P D vwCl [aI cI ag 18 ug, aI cI af 7 (upd (upd (upd uf 0 x32_1) 1 x55_2) 2 x83_3)] H := hP
        have hD : va_D A [aI cI ag 18 ug, aI cI af 7 (upd (upd (upd uf 0 x32_1) 1 x55_2) 2 x83_3)] := hD
        refine lv_iload_n hx hb dL_weigh_92 rfl (lv_at hl 2 rfl) ?_
        refine ag_callSi (As := [.int ((sr_L_sea (ug 0)) - (sr_L_level ug))]) (rest := [.int (sr_L_size x55_2), .int 4, .ref af]) hx hb hml hown hG hK hN hA hP hD hS hl (ct_L_size l D cI cC cL ((sr_L_sea (ug 0)) - (sr_L_level ug))) fL_size k_396 ag_cut_0 rfl (Nat.le_of_ble_eq_true rfl) ⟨Nat.le_of_ble_eq_true rfl, Nat.le_of_ble_eq_true rfl⟩ ⟨Nat.zero_le _, Nat.zero_le _⟩ dL_weigh_93 (fun r w1 H locs hw hP hD hS => ?_)
        obtain ⟨rfl, hw⟩ := hw
        subst hw
        have hP : va_P D vwCl [aI cI ag 18 ug, aI cI af 7 (upd (upd (upd uf 0 x32_1) 1 x55_2) 2 x83_3)] H := hP
        have hD : va_D A [aI cI ag 18 ug, aI cI af 7 (upd (upd (upd uf 0 x32_1) 1 x55_2) 2 x83_3)] := hD
        refine lv_imul hx hb dL_weigh_96 ?_
        refine lv_bipush (v := 100) hx hb dL_weigh_97 (by decide) ?_
        refine lv_idiv hx hb dL_weigh_99 (by decide) ?_
        refine ag_topn (v := xv100_4_L_weigh ug) (by rw [← ex55_2]; rfl) (fun x100_4 ex100_4 => ?_)
        refine ag_ist (k := 4) hx hb hK hP hD hS 1 rfl rfl (Nat.le_of_ble_eq_true rfl) (Nat.le_of_ble_eq_true rfl) dL_weigh_100 (fun H locs hP hD hS => ?_)
        have hP : va_P D vwCl [aI cI ag 18 ug, aI cI af 7 (upd (upd (upd (upd uf 0 x32_1) 1 x55_2) 2 x83_3) 4 x100_4)] H := hP
        have hD : va_D A [aI cI ag 18 ug, aI cI af 7 (upd (upd (upd (upd uf 0 x32_1) 1 x55_2) 2 x83_3) 4 x100_4)] := hD
        refine lv_aload_n hx hb dL_weigh_101 rfl (lv_at hl 1 rfl) ?_
        refine lv_iconst (v := 5) hx hb dL_weigh_102 (by decide) ?_
        refine lv_aload_n hx hb dL_weigh_103 rfl (lv_at hl 1 rfl) ?_
        refine lv_iconst (v := 2) hx hb dL_weigh_104 (by decide) ?_
        refine ag_ild (k := 2) (v := x83_3) hx hb hK hP 1 rfl rfl (Nat.le_of_ble_eq_true rfl) (Nat.le_of_ble_eq_true rfl) rfl dL_weigh_105 ?_
        refine ag_callSi (As := [.int x83_3]) (rest := [.int 5, .ref af]) hx hb hml hown hG hK hN hA hP hD hS hl (ct_L_size l D cI cC cL x83_3) fL_size k_396 ag_cut_0 rfl (Nat.le_of_ble_eq_true rfl) ⟨Nat.le_of_ble_eq_true rfl, Nat.le_of_ble_eq_true rfl⟩ ⟨Nat.zero_le _, Nat.zero_le _⟩ dL_weigh_106 (fun r w1 H locs hw hP hD hS => ?_)
        obtain ⟨rfl, hw⟩ := hw
        subst hw
        have hP : va_P D vwCl [aI cI ag 18 ug, aI cI af 7 (upd (upd (upd (upd uf 0 x32_1) 1 x55_2) 2 x83_3) 4 x100_4)] H := hP
        have hD : va_D A [aI cI ag 18 ug, aI cI af 7 (upd (upd (upd (upd uf 0 x32_1) 1 x55_2) 2 x83_3) 4 x100_4)] := hD
        refine lv_bipush (v := 20) hx hb dL_weigh_109 (by decide) ?_
        refine lv_iload_n hx hb dL_weigh_111 rfl (lv_at hl 2 rfl) ?_
        refine ag_callSi (As := [.int ((sr_L_sea (ug 0)) - (sr_L_level ug))]) (rest := [.int 20, .int (sr_L_size x83_3), .int 5, .ref af]) hx hb hml hown hG hK hN hA hP hD hS hl (ct_L_size l D cI cC cL ((sr_L_sea (ug 0)) - (sr_L_level ug))) fL_size k_396 ag_cut_0 rfl (Nat.le_of_ble_eq_true rfl) ⟨Nat.le_of_ble_eq_true rfl, Nat.le_of_ble_eq_true rfl⟩ ⟨Nat.zero_le _, Nat.zero_le _⟩ dL_weigh_112 (fun r w1 H locs hw hP hD hS => ?_)
        obtain ⟨rfl, hw⟩ := hw
        subst hw
        have hP : va_P D vwCl [aI cI ag 18 ug, aI cI af 7 (upd (upd (upd (upd uf 0 x32_1) 1 x55_2) 2 x83_3) 4 x100_4)] H := hP
        have hD : va_D A [aI cI ag 18 ug, aI cI af 7 (upd (upd (upd (upd uf 0 x32_1) 1 x55_2) 2 x83_3) 4 x100_4)] := hD
        refine lv_iadd hx hb dL_weigh_115 ?_
        refine lv_imul hx hb dL_weigh_116 ?_
        refine lv_bipush (v := 100) hx hb dL_weigh_117 (by decide) ?_
        refine lv_idiv hx hb dL_weigh_119 (by decide) ?_
        refine ag_topn (v := xv120_5_L_weigh ug) (by rw [← ex83_3]; rfl) (fun x120_5 ex120_5 => ?_)
        refine ag_ist (k := 5) hx hb hK hP hD hS 1 rfl rfl (Nat.le_of_ble_eq_true rfl) (Nat.le_of_ble_eq_true rfl) dL_weigh_120 (fun H locs hP hD hS => ?_)
        have hP : va_P D vwCl [aI cI ag 18 ug, aI cI af 7 (upd (upd (upd (upd (upd uf 0 x32_1) 1 x55_2) 2 x83_3) 4 x100_4) 5 x120_5)] H := hP
        have hD : va_D A [aI cI ag 18 ug, aI cI af 7 (upd (upd (upd (upd (upd uf 0 x32_1) 1 x55_2) 2 x83_3) 4 x100_4) 5 x120_5)] := hD
        refine lv_aload_n hx hb dL_weigh_121 rfl (lv_at hl 0 rfl) ?_
        refine lv_iconst (v := 1) hx hb dL_weigh_122 (by decide) ?_
        refine ag_ild (k := 1) (v := ug 1) hx hb hK hP 0 rfl rfl (Nat.le_of_ble_eq_true rfl) (Nat.le_of_ble_eq_true rfl) rfl dL_weigh_123 ?_
        refine lv_aload_n hx hb dL_weigh_124 rfl (lv_at hl 1 rfl) ?_
        refine lv_iconst (v := 0) hx hb dL_weigh_125 (by decide) ?_
        refine ag_ild (k := 0) (v := x32_1) hx hb hK hP 1 rfl rfl (Nat.le_of_ble_eq_true rfl) (Nat.le_of_ble_eq_true rfl) rfl dL_weigh_126 ?_
        refine lv_iadd hx hb dL_weigh_127 ?_
        refine lv_aload_n hx hb dL_weigh_128 rfl (lv_at hl 1 rfl) ?_
        refine lv_iconst (v := 1) hx hb dL_weigh_129 (by decide) ?_
        refine ag_ild (k := 1) (v := x55_2) hx hb hK hP 1 rfl rfl (Nat.le_of_ble_eq_true rfl) (Nat.le_of_ble_eq_true rfl) rfl dL_weigh_130 ?_
        refine lv_iadd hx hb dL_weigh_131 ?_
        refine lv_aload_n hx hb dL_weigh_132 rfl (lv_at hl 1 rfl) ?_
        refine lv_iconst (v := 2) hx hb dL_weigh_133 (by decide) ?_
        refine ag_ild (k := 2) (v := x83_3) hx hb hK hP 1 rfl rfl (Nat.le_of_ble_eq_true rfl) (Nat.le_of_ble_eq_true rfl) rfl dL_weigh_134 ?_
        refine lv_iadd hx hb dL_weigh_135 ?_
        refine lv_istore_n (lv' := [(3, .int ((((ug 1) + x32_1) + x55_2) + x83_3)), (0, .ref ag), (1, .ref af), (2, .int ((sr_L_sea (ug 0)) - (sr_L_level ug)))]) hx hb dL_weigh_136 rfl hl (by decide) rfl (fun ls hl => ?_)
        refine lv_aload_n hx hb dL_weigh_137 rfl (lv_at hl 2 rfl) ?_
        refine lv_iconst (v := 3) hx hb dL_weigh_138 (by decide) ?_
        refine lv_iload_n hx hb dL_weigh_139 rfl (lv_at hl 0 rfl) ?_
        refine lv_ldc (v := 80000) hx hb hown (hG _ k_399) dL_weigh_140 ?_
        have J159 : ∀ (ls : Array Slot), lv_has ls 6 [(0, .ref ag), (1, .ref af), (2, .int ((sr_L_sea (ug 0)) - (sr_L_level ug))), (3, .int ((((ug 1) + x32_1) + x55_2) + x83_3))] → W p l e (ag_rm 1 23) s m ([.ref ag, .ref af] : List Value).toArray below meth c H locs 0 0 (MQ below (va_Qv (po_L_weigh cI cC cL ag af ug uf) (ag_Out D [aI cI ag 18 ug, aI cI af 7 uf]) A) ([.ref ag, .ref af] : List Value).toArray s 0 0 A) (F0 m 159 ls [.int (j159_0_L_weigh ug), .int 3, .ref af]) := by
          intro ls hl
          refine lv_aload_n hx hb dL_weigh_159 rfl (lv_at hl 0 rfl) ?_
          refine lv_iconst (v := 1) hx hb dL_weigh_160 (by decide) ?_
          refine ag_ild (k := 1) (v := ug 1) hx hb hK hP 0 rfl rfl (Nat.le_of_ble_eq_true rfl) (Nat.le_of_ble_eq_true rfl) rfl dL_weigh_161 ?_
          refine lv_isub hx hb dL_weigh_162 ?_
          refine ag_topn (v := xv163_6_L_weigh ug) rfl (fun x163_6 ex163_6 => ?_)
          refine ag_ist (k := 3) hx hb hK hP hD hS 1 rfl rfl (Nat.le_of_ble_eq_true rfl) (Nat.le_of_ble_eq_true rfl) dL_weigh_163 (fun H locs hP hD hS => ?_)
          have hP : va_P D vwCl [aI cI ag 18 ug, aI cI af 7 (upd (upd (upd (upd (upd (upd uf 0 x32_1) 1 x55_2) 2 x83_3) 4 x100_4) 5 x120_5) 3 x163_6)] H := hP
          have hD : va_D A [aI cI ag 18 ug, aI cI af 7 (upd (upd (upd (upd (upd (upd uf 0 x32_1) 1 x55_2) 2 x83_3) 4 x100_4) 5 x120_5) 3 x163_6)] := hD
          refine lv_aload_n hx hb dL_weigh_164 rfl (lv_at hl 1 rfl) ?_
          refine lv_iconst (v := 3) hx hb dL_weigh_165 (by decide) ?_
          refine ag_ild (k := 3) (v := x163_6) hx hb hK hP 1 rfl rfl (Nat.le_of_ble_eq_true rfl) (Nat.le_of_ble_eq_true rfl) rfl dL_weigh_166 ?_
          refine lv_bipush (v := 50) hx hb dL_weigh_167 (by decide) ?_
          refine lv_idiv hx hb dL_weigh_169 (by decide) ?_
          refine lv_istore (lv' := [(4, .int (x163_6 / 50)), (0, .ref ag), (1, .ref af), (2, .int ((sr_L_sea (ug 0)) - (sr_L_level ug))), (3, .int ((((ug 1) + x32_1) + x55_2) + x83_3))]) hx hb dL_weigh_170 hl (by decide) rfl (fun ls hl => ?_)
          refine lv_aload_n hx hb dL_weigh_172 rfl (lv_at hl 2 rfl) ?_
          refine lv_iconst (v := 3) hx hb dL_weigh_173 (by decide) ?_
          refine ag_ild (k := 3) (v := x163_6) hx hb hK hP 1 rfl rfl (Nat.le_of_ble_eq_true rfl) (Nat.le_of_ble_eq_true rfl) rfl dL_weigh_174 ?_
          refine ag_callSi (As := [.int x163_6]) (rest := []) hx hb hml hown hG hK hN hA hP hD hS hl (ct_L_size l D cI cC cL x163_6) fL_size k_396 ag_cut_0 rfl (Nat.le_of_ble_eq_true rfl) ⟨Nat.le_of_ble_eq_true rfl, Nat.le_of_ble_eq_true rfl⟩ ⟨Nat.zero_le _, Nat.zero_le _⟩ dL_weigh_175 (fun r w1 H locs hw hP hD hS => ?_)
          obtain ⟨rfl, hw⟩ := hw
          subst hw
          have hP : va_P D vwCl [aI cI ag 18 ug, aI cI af 7 (upd (upd (upd (upd (upd (upd uf 0 x32_1) 1 x55_2) 2 x83_3) 4 x100_4) 5 x120_5) 3 x163_6)] H := hP
          have hD : va_D A [aI cI ag 18 ug, aI cI af 7 (upd (upd (upd (upd (upd (upd uf 0 x32_1) 1 x55_2) 2 x83_3) 4 x100_4) 5 x120_5) 3 x163_6)] := hD
          refine lv_bipush (v := 20) hx hb dL_weigh_178 (by decide) ?_
          refine lv_idiv hx hb dL_weigh_180 (by decide) ?_
          refine lv_istore (lv' := [(5, .int ((sr_L_size x163_6) / 20)), (4, .int (x163_6 / 50)), (0, .ref ag), (1, .ref af), (2, .int ((sr_L_sea (ug 0)) - (sr_L_level ug))), (3, .int ((((ug 1) + x32_1) + x55_2) + x83_3))]) hx hb dL_weigh_181 hl (by decide) rfl (fun ls hl => ?_)
          refine lv_aload_n hx hb dL_weigh_183 rfl (lv_at hl 3 rfl) ?_
          refine lv_bipush (v := 6) hx hb dL_weigh_184 (by decide) ?_
          refine lv_aload_n hx hb dL_weigh_186 rfl (lv_at hl 3 rfl) ?_
          refine lv_iconst (v := 3) hx hb dL_weigh_187 (by decide) ?_
          refine ag_ild (k := 3) (v := x163_6) hx hb hK hP 1 rfl rfl (Nat.le_of_ble_eq_true rfl) (Nat.le_of_ble_eq_true rfl) rfl dL_weigh_188 ?_
          have J251 : ∀ (ls : Array Slot), lv_has ls 6 [(0, .ref ag), (1, .ref af), (2, .int ((sr_L_sea (ug 0)) - (sr_L_level ug))), (3, .int ((((ug 1) + x32_1) + x55_2) + x83_3)), (4, .int (x163_6 / 50)), (5, .int ((sr_L_size x163_6) / 20))] → W p l e (ag_rm 1 23) s m ([.ref ag, .ref af] : List Value).toArray below meth c H locs 0 0 (MQ below (va_Qv (po_L_weigh cI cC cL ag af ug uf) (ag_Out D [aI cI ag 18 ug, aI cI af 7 uf]) A) ([.ref ag, .ref af] : List Value).toArray s 0 0 A) (F0 m 251 ls [.int (j251_0_L_weigh ug), .int 6, .ref af]) := by
            intro ls hl
            refine ag_topn (v := xv251_7_L_weigh ug) rfl (fun x251_7 ex251_7 => ?_)
            refine ag_ist (k := 6) hx hb hK hP hD hS 1 rfl rfl (Nat.le_of_ble_eq_true rfl) (Nat.le_of_ble_eq_true rfl) dL_weigh_251 (fun H locs hP hD hS => ?_)
            have hP : va_P D vwCl [aI cI ag 18 ug, aI cI af 7 (upd (upd (upd (upd (upd (upd (upd uf 0 x32_1) 1 x55_2) 2 x83_3) 4 x100_4) 5 x120_5) 3 x163_6) 6 x251_7)] H := hP
            have hD : va_D A [aI cI ag 18 ug, aI cI af 7 (upd (upd (upd (upd (upd (upd (upd uf 0 x32_1) 1 x55_2) 2 x83_3) 4 x100_4) 5 x120_5) 3 x163_6) 6 x251_7)] := hD
            revert hP; revert hD; revert hS; revert hl
            subst ex251_7
            subst ex163_6
            subst ex120_5
            subst ex100_4
            subst ex83_3
            subst ex55_2
            subst ex32_1
            intro hl hS hD hP
            exact ag_vret [ag, af] hx hb hr hlocks hP hS rfl rfl (by show _ = _; rw [show sw1_L_weigh ug uf = upd (upd (upd (upd (upd (upd (upd uf 0 (xv32_1_L_weigh ug)) 1 (xv55_2_L_weigh ug)) 2 (xv83_3_L_weigh ug)) 4 (xv100_4_L_weigh ug)) 5 (xv120_5_L_weigh ug)) 3 (xv163_6_L_weigh ug)) 6 (xv251_7_L_weigh ug) from rfl]) dL_weigh_252
          refine lv_if_le (tgt := 219) hx hb dL_weigh_189 (by decide) (fun c_189 => ?_) (fun c_189 => ?_)
          · refine lv_aload_n hx hb dL_weigh_219 rfl (lv_at hl 3 rfl) ?_
            refine lv_iconst (v := 3) hx hb dL_weigh_220 (by decide) ?_
            refine ag_ild (k := 3) (v := x163_6) hx hb hK hP 1 rfl rfl (Nat.le_of_ble_eq_true rfl) (Nat.le_of_ble_eq_true rfl) rfl dL_weigh_221 ?_
            refine lv_aload_n hx hb dL_weigh_222 rfl (lv_at hl 2 rfl) ?_
            refine lv_bipush (v := 10) hx hb dL_weigh_223 (by decide) ?_
            refine ag_ild (k := 10) (v := ug 10) hx hb hK hP 0 rfl rfl (Nat.le_of_ble_eq_true rfl) (Nat.le_of_ble_eq_true rfl) rfl dL_weigh_225 ?_
            refine lv_ineg hx hb dL_weigh_226 ?_
            refine lv_icmp_le (tgt := 234) hx hb dL_weigh_227 (by decide) (fun c_227 => ?_) (fun c_227 => ?_)
            · refine lv_iload hx hb dL_weigh_234 (lv_at hl 0 rfl) ?_
              refine lv_aload_n hx hb dL_weigh_236 rfl (lv_at hl 2 rfl) ?_
              refine lv_iconst (v := 2) hx hb dL_weigh_237 (by decide) ?_
              refine ag_ild (k := 2) (v := ug 2) hx hb hK hP 0 rfl rfl (Nat.le_of_ble_eq_true rfl) (Nat.le_of_ble_eq_true rfl) rfl dL_weigh_238 ?_
              have J250 : ∀ (ls : Array Slot), lv_has ls 6 [(0, .ref ag), (1, .ref af), (2, .int ((sr_L_sea (ug 0)) - (sr_L_level ug))), (3, .int ((((ug 1) + x32_1) + x55_2) + x83_3)), (4, .int (x163_6 / 50)), (5, .int ((sr_L_size x163_6) / 20))] → W p l e (ag_rm 1 23) s m ([.ref ag, .ref af] : List Value).toArray below meth c H locs 0 0 (MQ below (va_Qv (po_L_weigh cI cC cL ag af ug uf) (ag_Out D [aI cI ag 18 ug, aI cI af 7 uf]) A) ([.ref ag, .ref af] : List Value).toArray s 0 0 A) (F0 m 250 ls [.int (j250_0_L_weigh ug), .int 6, .ref af]) := by
                intro ls hl
                refine lv_ineg hx hb dL_weigh_250 ?_
                revert hP; revert hD; revert hS; revert hl
                subst ex163_6
                subst ex120_5
                subst ex100_4
                subst ex83_3
                subst ex55_2
                subst ex32_1
                intro hl hS hD hP
                simp only [j251_0_L_weigh, if_pos c_189, if_pos c_227] at J251
                exact J251 _ (lv_sub hl [0, 1, 2, 3, 4, 5] rfl)
              refine lv_icmp_le (tgt := 248) hx hb dL_weigh_239 (by decide) (fun c_239 => ?_) (fun c_239 => ?_)
              · refine lv_iload hx hb dL_weigh_248 (lv_at hl 0 rfl) ?_
                revert hP; revert hD; revert hS; revert hl
                subst ex163_6
                subst ex120_5
                subst ex100_4
                subst ex83_3
                subst ex55_2
                subst ex32_1
                intro hl hS hD hP
                simp only [j250_0_L_weigh, if_pos c_239] at J250
                exact J250 _ (lv_sub hl [2, 3, 4, 5, 1, 0] rfl)
              · refine lv_aload_n hx hb dL_weigh_242 rfl (lv_at hl 2 rfl) ?_
                refine lv_iconst (v := 2) hx hb dL_weigh_243 (by decide) ?_
                refine ag_ild (k := 2) (v := ug 2) hx hb hK hP 0 rfl rfl (Nat.le_of_ble_eq_true rfl) (Nat.le_of_ble_eq_true rfl) rfl dL_weigh_244 ?_
                refine lv_goto (tgt := 250) hx hb dL_weigh_245 (by decide) ?_
                revert hP; revert hD; revert hS; revert hl
                subst ex163_6
                subst ex120_5
                subst ex100_4
                subst ex83_3
                subst ex55_2
                subst ex32_1
                intro hl hS hD hP
                simp only [j250_0_L_weigh, if_neg c_239] at J250
                exact J250 _ (lv_sub hl [2, 3, 4, 5, 1, 0] rfl)
            · refine lv_iconst (v := 0) hx hb dL_weigh_230 (by decide) ?_
              refine lv_goto (tgt := 251) hx hb dL_weigh_231 (by decide) ?_
              revert hP; revert hD; revert hS; revert hl
              subst ex163_6
              subst ex120_5
              subst ex100_4
              subst ex83_3
              subst ex55_2
              subst ex32_1
              intro hl hS hD hP
              simp only [j251_0_L_weigh, if_pos c_189, if_neg c_227] at J251
              exact J251 _ (lv_sub hl [2, 3, 4, 5, 1, 0] rfl)
          · refine lv_aload_n hx hb dL_weigh_192 rfl (lv_at hl 2 rfl) ?_
            refine lv_iconst (v := 2) hx hb dL_weigh_193 (by decide) ?_
            refine ag_ild (k := 2) (v := ug 2) hx hb hK hP 0 rfl rfl (Nat.le_of_ble_eq_true rfl) (Nat.le_of_ble_eq_true rfl) rfl dL_weigh_194 ?_
            refine lv_iload hx hb dL_weigh_195 (lv_at hl 1 rfl) ?_
            refine lv_iadd hx hb dL_weigh_197 ?_
            refine lv_sipush (v := 20000) hx hb dL_weigh_198 (by decide) ?_
            refine lv_icmp_le (tgt := 214) hx hb dL_weigh_201 (by decide) (fun c_201 => ?_) (fun c_201 => ?_)
            · refine lv_iload hx hb dL_weigh_214 (lv_at hl 1 rfl) ?_
              refine lv_goto (tgt := 251) hx hb dL_weigh_216 (by decide) ?_
              revert hP; revert hD; revert hS; revert hl
              subst ex163_6
              subst ex120_5
              subst ex100_4
              subst ex83_3
              subst ex55_2
              subst ex32_1
              intro hl hS hD hP
              simp only [j251_0_L_weigh, if_neg c_189, if_pos c_201] at J251
              exact J251 _ (lv_sub hl [2, 3, 4, 5, 1, 0] rfl)
            · refine lv_sipush (v := 20000) hx hb dL_weigh_204 (by decide) ?_
              refine lv_aload_n hx hb dL_weigh_207 rfl (lv_at hl 2 rfl) ?_
              refine lv_iconst (v := 2) hx hb dL_weigh_208 (by decide) ?_
              refine ag_ild (k := 2) (v := ug 2) hx hb hK hP 0 rfl rfl (Nat.le_of_ble_eq_true rfl) (Nat.le_of_ble_eq_true rfl) rfl dL_weigh_209 ?_
              refine lv_isub hx hb dL_weigh_210 ?_
              refine lv_goto (tgt := 251) hx hb dL_weigh_211 (by decide) ?_
              revert hP; revert hD; revert hS; revert hl
              subst ex163_6
              subst ex120_5
              subst ex100_4
              subst ex83_3
              subst ex55_2
              subst ex32_1
              intro hl hS hD hP
              simp only [j251_0_L_weigh, if_neg c_189, if_neg c_201] at J251
              exact J251 _ (lv_sub hl [2, 3, 4, 5, 1, 0] rfl)
        refine lv_icmp_le (tgt := 150) hx hb dL_weigh_142 (by decide) (fun c_142 => ?_) (fun c_142 => ?_)
        · refine lv_iload_n hx hb dL_weigh_150 rfl (lv_at hl 0 rfl) ?_
          refine lv_if_ge (tgt := 158) hx hb dL_weigh_151 (by decide) (fun c_151 => ?_) (fun c_151 => ?_)
          · refine lv_iload_n hx hb dL_weigh_158 rfl (lv_at hl 0 rfl) ?_
            revert hP; revert hD; revert hS; revert hl
            subst ex120_5
            subst ex100_4
            subst ex83_3
            subst ex55_2
            subst ex32_1
            intro hl hS hD hP
            simp only [j159_0_L_weigh, if_pos c_142, if_pos c_151] at J159
            exact J159 _ (lv_sub hl [1, 2, 3, 0] rfl)
          · refine lv_iconst (v := 0) hx hb dL_weigh_154 (by decide) ?_
            refine lv_goto (tgt := 159) hx hb dL_weigh_155 (by decide) ?_
            revert hP; revert hD; revert hS; revert hl
            subst ex120_5
            subst ex100_4
            subst ex83_3
            subst ex55_2
            subst ex32_1
            intro hl hS hD hP
            simp only [j159_0_L_weigh, if_pos c_142, if_neg c_151] at J159
            exact J159 _ (lv_sub hl [1, 2, 3, 0] rfl)
        · refine lv_ldc (v := 80000) hx hb hown (hG _ k_399) dL_weigh_145 ?_
          refine lv_goto (tgt := 159) hx hb dL_weigh_147 (by decide) ?_
          revert hP; revert hD; revert hS; revert hl
          subst ex120_5
          subst ex100_4
          subst ex83_3
          subst ex55_2
          subst ex32_1
          intro hl hS hD hP
          simp only [j159_0_L_weigh, if_neg c_142] at J159
          exact J159 _ (lv_sub hl [1, 2, 3, 0] rfl)
      refine lv_if_ne (tgt := 76) hx hb dL_weigh_62 (by decide) (fun c_62 => ?_) (fun c_62 => ?_)
      · refine lv_iconst (v := 0) hx hb dL_weigh_76 (by decide) ?_
        refine lv_goto (tgt := 83) hx hb dL_weigh_77 (by decide) ?_
        revert hP; revert hD; revert hS; revert hl
        subst ex55_2
        subst ex32_1
        intro hl hS hD hP
        simp only [j83_0_L_weigh, if_neg c_62] at J83
        exact J83 H locs hP hD hS _ (lv_sub hl [0, 1, 2] rfl)
      · refine lv_iload_n hx hb dL_weigh_65 rfl (lv_at hl 2 rfl) ?_
        refine ag_callSi (As := [.int ((sr_L_sea (ug 0)) - (sr_L_level ug))]) (rest := [.int 2, .ref af]) hx hb hml hown hG hK hN hA hP hD hS hl (ct_L_size l D cI cC cL ((sr_L_sea (ug 0)) - (sr_L_level ug))) fL_size k_396 ag_cut_0 rfl (Nat.le_of_ble_eq_true rfl) ⟨Nat.le_of_ble_eq_true rfl, Nat.le_of_ble_eq_true rfl⟩ ⟨Nat.zero_le _, Nat.zero_le _⟩ dL_weigh_66 (fun r w1 H locs hw hP hD hS => ?_)
        obtain ⟨rfl, hw⟩ := hw
        subst hw
        have hP : va_P D vwCl [aI cI ag 18 ug, aI cI af 7 (upd (upd uf 0 x32_1) 1 x55_2)] H := hP
        have hD : va_D A [aI cI ag 18 ug, aI cI af 7 (upd (upd uf 0 x32_1) 1 x55_2)] := hD
        refine lv_aload_n hx hb dL_weigh_69 rfl (lv_at hl 0 rfl) ?_
        refine lv_bipush (v := 9) hx hb dL_weigh_70 (by decide) ?_
        refine ag_ild (k := 9) (v := ug 9) hx hb hK hP 0 rfl rfl (Nat.le_of_ble_eq_true rfl) (Nat.le_of_ble_eq_true rfl) rfl dL_weigh_72 ?_
        refine lv_icmp_le (tgt := 80) hx hb dL_weigh_73 (by decide) (fun c_73 => ?_) (fun c_73 => ?_)
        · refine lv_aload_n hx hb dL_weigh_80 rfl (lv_at hl 0 rfl) ?_
          refine lv_iconst (v := 5) hx hb dL_weigh_81 (by decide) ?_
          refine ag_ild (k := 5) (v := ug 5) hx hb hK hP 0 rfl rfl (Nat.le_of_ble_eq_true rfl) (Nat.le_of_ble_eq_true rfl) rfl dL_weigh_82 ?_
          revert hP; revert hD; revert hS; revert hl
          subst ex55_2
          subst ex32_1
          intro hl hS hD hP
          simp only [j83_0_L_weigh, if_pos c_62, if_pos c_73] at J83
          exact J83 H locs hP hD hS _ (lv_sub hl [0, 1, 2] rfl)
        · refine lv_iconst (v := 0) hx hb dL_weigh_76 (by decide) ?_
          refine lv_goto (tgt := 83) hx hb dL_weigh_77 (by decide) ?_
          revert hP; revert hD; revert hS; revert hl
          subst ex55_2
          subst ex32_1
          intro hl hS hD hP
          simp only [j83_0_L_weigh, if_pos c_62, if_neg c_73] at J83
          exact J83 H locs hP hD hS _ (lv_sub hl [0, 1, 2] rfl)
    refine lv_icmp_ge (tgt := 50) hx hb dL_weigh_43 (by decide) (fun c_43 => ?_) (fun c_43 => ?_)
    · refine lv_aload_n hx hb dL_weigh_50 rfl (lv_at hl 0 rfl) ?_
      refine lv_iconst (v := 4) hx hb dL_weigh_51 (by decide) ?_
      refine ag_ild (k := 4) (v := ug 4) hx hb hK hP 0 rfl rfl (Nat.le_of_ble_eq_true rfl) (Nat.le_of_ble_eq_true rfl) rfl dL_weigh_52 ?_
      refine lv_iload_n hx hb dL_weigh_53 rfl (lv_at hl 2 rfl) ?_
      refine lv_imul hx hb dL_weigh_54 ?_
      revert hP; revert hD; revert hS; revert hl
      subst ex32_1
      intro hl hS hD hP
      simp only [j55_0_L_weigh, if_pos c_43] at J55
      exact J55 _ (lv_sub hl [0, 1, 2] rfl)
    · refine lv_iconst (v := 0) hx hb dL_weigh_46 (by decide) ?_
      refine lv_goto (tgt := 55) hx hb dL_weigh_47 (by decide) ?_
      revert hP; revert hD; revert hS; revert hl
      subst ex32_1
      intro hl hS hD hP
      simp only [j55_0_L_weigh, if_neg c_43] at J55
      exact J55 _ (lv_sub hl [0, 1, 2] rfl)
  refine lv_if_eq (tgt := 25) hx hb dL_weigh_18 (by decide) (fun c_18 => ?_) (fun c_18 => ?_)
  · refine lv_iconst (v := 2) hx hb dL_weigh_25 (by decide) ?_
    refine lv_aload_n hx hb dL_weigh_26 rfl (lv_at hl 1 rfl) ?_
    refine lv_iconst (v := 3) hx hb dL_weigh_27 (by decide) ?_
    refine ag_ild (k := 3) (v := ug 3) hx hb hK hP 0 rfl rfl (Nat.le_of_ble_eq_true rfl) (Nat.le_of_ble_eq_true rfl) rfl dL_weigh_28 ?_
    refine lv_imul hx hb dL_weigh_29 ?_
    refine lv_iload_n hx hb dL_weigh_30 rfl (lv_at hl 0 rfl) ?_
    refine lv_imul hx hb dL_weigh_31 ?_
    simp only [j32_0_L_weigh, if_pos c_18] at J32
    exact J32 _ (lv_sub hl [1, 2, 0] rfl)
  · refine lv_iconst (v := 0) hx hb dL_weigh_21 (by decide) ?_
    refine lv_goto (tgt := 32) hx hb dL_weigh_22 (by decide) ?_
    simp only [j32_0_L_weigh, if_neg c_18] at J32
    exact J32 _ (lv_sub hl [1, 2, 0] rfl)
