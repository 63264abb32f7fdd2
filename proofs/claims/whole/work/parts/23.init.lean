/-! the walks of constructors -/
abbrev po_X1_init (cI cC cL : ClassId) (x : Nat) : va_W → Prop := fun w' => ∃ q12 q36 q44 : Nat, [(x, .inr (1, [.int 0, .int 40000, .int 0, .int 0, .int 0, .int 0, .int 0, .int 0, .ref q12, .ref q36, .ref q44])), aI cI q12 3 (upd (upd (upd (fun _ => 0) 0 120) 1 40) 2 1500), aI cI q36 7 (fun _ => 0), aI cI q44 60 (fun _ => 0)] = w'
set_option maxHeartbeats 4000000 in
set_option maxRecDepth 100000 in
theorem ct_X1_init (l : Launch) (D : va_G) (cI cC cL : ClassId) (x : Nat) : ag_MC l yX1_init cX1_init 1 1 13 3 70 D cI cC cL [.ref x] [nX1 x] (po_X1_init cI cC cL x) := by
  refine ag_MC.of (plainFor_of_name (by decide)) (Nat.le_of_ble_eq_true rfl) ?_
  intro p e s m below meth c hx hb hr hlocks hml hown hmn hG hK hO A hN hA H locs hP hD hS ls hl
  have hl : lv_has ls 1 [(0, .ref x)] := hl
  refine lv_aload_n hx hb dX1_init_0 rfl (lv_at hl 0 rfl) ?_
  refine W.objInit hx hb hown (hG _ k_51) (hG _ k_44) (hG _ k_45) rfl (hl.1.trans hml.symm) rfl dX1_init_1 (Nat.le_of_ble_eq_true rfl) (Nat.le_of_ble_eq_true rfl) ?_
  refine W.eq (g2 := F0 m 4 ls []) rfl ?_
  refine lv_aload_n hx hb dX1_init_4 rfl (lv_at hl 0 rfl) ?_
  refine lv_ldc (v := 40000) hx hb hown (hG _ k_52) dX1_init_5 ?_
  refine ag_putX1 hx hb hG hown hK hP hD hS 0 1 rfl (by decide) k_55 (by decide) rfl rfl (Nat.le_of_ble_eq_true rfl) dX1_init_7 (fun H locs hP hD hS => ?_)
  have hP : va_P D vwCl [(x, .inr (1, [.int 0, .int 40000, .int 0, .int 0, .int 0, .int 0, .int 0, .int 0, .null, .null, .null]))] H := hP
  have hD : va_D A [(x, .inr (1, [.int 0, .int 40000, .int 0, .int 0, .int 0, .int 0, .int 0, .int 0, .null, .null, .null]))] := hD
  refine lv_aload_n hx hb dX1_init_10 rfl (lv_at hl 0 rfl) ?_
  refine lv_iconst (v := 3) hx hb dX1_init_11 (by decide) ?_
  refine ag_newaI (N := 3) hx hb hG hK hP hD hS hA rfl (by decide) (Nat.le_of_ble_eq_true rfl) (Nat.le_of_ble_eq_true rfl) dX1_init_12 (fun q12 H hP hD hS => ?_)
  have hP : va_P D vwCl [(x, .inr (1, [.int 0, .int 40000, .int 0, .int 0, .int 0, .int 0, .int 0, .int 0, .null, .null, .null])), aI cI q12 3 (fun _ => 0)] H := hP
  have hD : va_D A [(x, .inr (1, [.int 0, .int 40000, .int 0, .int 0, .int 0, .int 0, .int 0, .int 0, .null, .null, .null])), aI cI q12 3 (fun _ => 0)] := hD
  refine lv_dup hx hb dX1_init_14 rfl ?_
  refine lv_iconst (v := 0) hx hb dX1_init_15 (by decide) ?_
  refine lv_bipush (v := 120) hx hb dX1_init_16 (by decide) ?_
  refine ag_ist (k := 0) hx hb hK hP hD hS 1 rfl rfl (Nat.le_of_ble_eq_true rfl) (Nat.le_of_ble_eq_true rfl) dX1_init_18 (fun H locs hP hD hS => ?_)
  have hP : va_P D vwCl [(x, .inr (1, [.int 0, .int 40000, .int 0, .int 0, .int 0, .int 0, .int 0, .int 0, .null, .null, .null])), aI cI q12 3 (upd (fun _ => 0) 0 120)] H := hP
  have hD : va_D A [(x, .inr (1, [.int 0, .int 40000, .int 0, .int 0, .int 0, .int 0, .int 0, .int 0, .null, .null, .null])), aI cI q12 3 (upd (fun _ => 0) 0 120)] := hD
  refine lv_dup hx hb dX1_init_19 rfl ?_
  refine lv_iconst (v := 1) hx hb dX1_init_20 (by decide) ?_
  refine lv_bipush (v := 40) hx hb dX1_init_21 (by decide) ?_
  refine ag_ist (k := 1) hx hb hK hP hD hS 1 rfl rfl (Nat.le_of_ble_eq_true rfl) (Nat.le_of_ble_eq_true rfl) dX1_init_23 (fun H locs hP hD hS => ?_)
  have hP : va_P D vwCl [(x, .inr (1, [.int 0, .int 40000, .int 0, .int 0, .int 0, .int 0, .int 0, .int 0, .null, .null, .null])), aI cI q12 3 (upd (upd (fun _ => 0) 0 120) 1 40)] H := hP
  have hD : va_D A [(x, .inr (1, [.int 0, .int 40000, .int 0, .int 0, .int 0, .int 0, .int 0, .int 0, .null, .null, .null])), aI cI q12 3 (upd (upd (fun _ => 0) 0 120) 1 40)] := hD
  refine lv_dup hx hb dX1_init_24 rfl ?_
  refine lv_iconst (v := 2) hx hb dX1_init_25 (by decide) ?_
  refine lv_sipush (v := 1500) hx hb dX1_init_26 (by decide) ?_
  refine ag_ist (k := 2) hx hb hK hP hD hS 1 rfl rfl (Nat.le_of_ble_eq_true rfl) (Nat.le_of_ble_eq_true rfl) dX1_init_29 (fun H locs hP hD hS => ?_)
  have hP : va_P D vwCl [(x, .inr (1, [.int 0, .int 40000, .int 0, .int 0, .int 0, .int 0, .int 0, .int 0, .null, .null, .null])), aI cI q12 3 (upd (upd (upd (fun _ => 0) 0 120) 1 40) 2 1500)] H := hP
  have hD : va_D A [(x, .inr (1, [.int 0, .int 40000, .int 0, .int 0, .int 0, .int 0, .int 0, .int 0, .null, .null, .null])), aI cI q12 3 (upd (upd (upd (fun _ => 0) 0 120) 1 40) 2 1500)] := hD
  refine ag_finX1 hx hb hG hown hmn hK hP hD hS 0 8 rfl (by decide) k_72 (by decide) rfl rfl (Nat.le_of_ble_eq_true rfl) dX1_init_30 (fun H locs hP hD hS => ?_)
  have hP : va_P D vwCl [(x, .inr (1, [.int 0, .int 40000, .int 0, .int 0, .int 0, .int 0, .int 0, .int 0, .ref q12, .null, .null])), aI cI q12 3 (upd (upd (upd (fun _ => 0) 0 120) 1 40) 2 1500)] H := hP
  have hD : va_D A [(x, .inr (1, [.int 0, .int 40000, .int 0, .int 0, .int 0, .int 0, .int 0, .int 0, .ref q12, .null, .null])), aI cI q12 3 (upd (upd (upd (fun _ => 0) 0 120) 1 40) 2 1500)] := hD
  refine lv_aload_n hx hb dX1_init_33 rfl (lv_at hl 0 rfl) ?_
  refine lv_bipush (v := 7) hx hb dX1_init_34 (by decide) ?_
  refine ag_newaI (N := 7) hx hb hG hK hP hD hS hA rfl (by decide) (Nat.le_of_ble_eq_true rfl) (Nat.le_of_ble_eq_true rfl) dX1_init_36 (fun q36 H hP hD hS => ?_)
  have hP : va_P D vwCl [(x, .inr (1, [.int 0, .int 40000, .int 0, .int 0, .int 0, .int 0, .int 0, .int 0, .ref q12, .null, .null])), aI cI q12 3 (upd (upd (upd (fun _ => 0) 0 120) 1 40) 2 1500), aI cI q36 7 (fun _ => 0)] H := hP
  have hD : va_D A [(x, .inr (1, [.int 0, .int 40000, .int 0, .int 0, .int 0, .int 0, .int 0, .int 0, .ref q12, .null, .null])), aI cI q12 3 (upd (upd (upd (fun _ => 0) 0 120) 1 40) 2 1500), aI cI q36 7 (fun _ => 0)] := hD
  refine ag_finX1 hx hb hG hown hmn hK hP hD hS 0 9 rfl (by decide) k_75 (by decide) rfl rfl (Nat.le_of_ble_eq_true rfl) dX1_init_38 (fun H locs hP hD hS => ?_)
  have hP : va_P D vwCl [(x, .inr (1, [.int 0, .int 40000, .int 0, .int 0, .int 0, .int 0, .int 0, .int 0, .ref q12, .ref q36, .null])), aI cI q12 3 (upd (upd (upd (fun _ => 0) 0 120) 1 40) 2 1500), aI cI q36 7 (fun _ => 0)] H := hP
  have hD : va_D A [(x, .inr (1, [.int 0, .int 40000, .int 0, .int 0, .int 0, .int 0, .int 0, .int 0, .ref q12, .ref q36, .null])), aI cI q12 3 (upd (upd (upd (fun _ => 0) 0 120) 1 40) 2 1500), aI cI q36 7 (fun _ => 0)] := hD
  refine lv_aload_n hx hb dX1_init_41 rfl (lv_at hl 0 rfl) ?_
  refine lv_bipush (v := 60) hx hb dX1_init_42 (by decide) ?_
  refine ag_newaI (N := 60) hx hb hG hK hP hD hS hA rfl (by decide) (Nat.le_of_ble_eq_true rfl) (Nat.le_of_ble_eq_true rfl) dX1_init_44 (fun q44 H hP hD hS => ?_)
  have hP : va_P D vwCl [(x, .inr (1, [.int 0, .int 40000, .int 0, .int 0, .int 0, .int 0, .int 0, .int 0, .ref q12, .ref q36, .null])), aI cI q12 3 (upd (upd (upd (fun _ => 0) 0 120) 1 40) 2 1500), aI cI q36 7 (fun _ => 0), aI cI q44 60 (fun _ => 0)] H := hP
  have hD : va_D A [(x, .inr (1, [.int 0, .int 40000, .int 0, .int 0, .int 0, .int 0, .int 0, .int 0, .ref q12, .ref q36, .null])), aI cI q12 3 (upd (upd (upd (fun _ => 0) 0 120) 1 40) 2 1500), aI cI q36 7 (fun _ => 0), aI cI q44 60 (fun _ => 0)] := hD
  refine ag_finX1 hx hb hG hown hmn hK hP hD hS 0 10 rfl (by decide) k_77 (by decide) rfl rfl (Nat.le_of_ble_eq_true rfl) dX1_init_46 (fun H locs hP hD hS => ?_)
  have hP : va_P D vwCl [(x, .inr (1, [.int 0, .int 40000, .int 0, .int 0, .int 0, .int 0, .int 0, .int 0, .ref q12, .ref q36, .ref q44])), aI cI q12 3 (upd (upd (upd (fun _ => 0) 0 120) 1 40) 2 1500), aI cI q36 7 (fun _ => 0), aI cI q44 60 (fun _ => 0)] H := hP
  have hD : va_D A [(x, .inr (1, [.int 0, .int 40000, .int 0, .int 0, .int 0, .int 0, .int 0, .int 0, .ref q12, .ref q36, .ref q44])), aI cI q12 3 (upd (upd (upd (fun _ => 0) 0 120) 1 40) 2 1500), aI cI q36 7 (fun _ => 0), aI cI q44 60 (fun _ => 0)] := hD
  exact ag_cret hx hb hr hlocks hP hD hS ⟨q12, q36, q44, rfl⟩ dX1_init_49
abbrev po_X4_init (cI cC cL : ClassId) (x : Nat) : va_W → Prop := fun w' => [(x, .inr (4, [.int 0, .int 0, .int 0, .int 0, .int 0, .int 0, .int 0]))] = w'
set_option maxHeartbeats 4000000 in
set_option maxRecDepth 100000 in
theorem ct_X4_init (l : Launch) (D : va_G) (cI cC cL : ClassId) (x : Nat) : ag_MC l yX4_init cX4_init 1 1 13 0 0 D cI cC cL [.ref x] [nX4 x] (po_X4_init cI cC cL x) := by
  refine ag_MC.of (plainFor_of_name (by decide)) (Nat.le_of_ble_eq_true rfl) ?_
  intro p e s m below meth c hx hb hr hlocks hml hown hmn hG hK hO A hN hA H locs hP hD hS ls hl
  have hl : lv_has ls 1 [(0, .ref x)] := hl
  refine lv_aload_n hx hb dX4_init_0 rfl (lv_at hl 0 rfl) ?_
  refine W.objInit hx hb hown (hG _ k_108) (hG _ k_44) (hG _ k_45) rfl (hl.1.trans hml.symm) rfl dX4_init_1 (Nat.le_of_ble_eq_true rfl) (Nat.le_of_ble_eq_true rfl) ?_
  refine W.eq (g2 := F0 m 4 ls []) rfl ?_
  exact ag_cret hx hb hr hlocks hP hD hS rfl dX4_init_4
abbrev po_X3_init (cI cC cL : ClassId) (x : Nat) : va_W → Prop := fun w' => ∃ q7 : Nat, [(x, .inr (3, [.ref q7, .int 0, .int 0, .int 0, .int 0, .int 0])), aC cC q7 60 (fun _ => 0)] = w'
set_option maxHeartbeats 4000000 in
set_option maxRecDepth 100000 in
theorem ct_X3_init (l : Launch) (D : va_G) (cI cC cL : ClassId) (x : Nat) : ag_MC l yX3_init cX3_init 1 1 13 1 60 D cI cC cL [.ref x] [nX3 x] (po_X3_init cI cC cL x) := by
  refine ag_MC.of (plainFor_of_name (by decide)) (Nat.le_of_ble_eq_true rfl) ?_
  intro p e s m below meth c hx hb hr hlocks hml hown hmn hG hK hO A hN hA H locs hP hD hS ls hl
  have hl : lv_has ls 1 [(0, .ref x)] := hl
  refine lv_aload_n hx hb dX3_init_0 rfl (lv_at hl 0 rfl) ?_
  refine W.objInit hx hb hown (hG _ k_167) (hG _ k_44) (hG _ k_45) rfl (hl.1.trans hml.symm) rfl dX3_init_1 (Nat.le_of_ble_eq_true rfl) (Nat.le_of_ble_eq_true rfl) ?_
  refine W.eq (g2 := F0 m 4 ls []) rfl ?_
  refine lv_aload_n hx hb dX3_init_4 rfl (lv_at hl 0 rfl) ?_
  refine lv_bipush (v := 60) hx hb dX3_init_5 (by decide) ?_
  refine ag_newaC (N := 60) hx hb hG hK hP hD hS hA rfl (by decide) (Nat.le_of_ble_eq_true rfl) (Nat.le_of_ble_eq_true rfl) dX3_init_7 (fun q7 H hP hD hS => ?_)
  have hP : va_P D vwCl [(x, .inr (3, [.null, .int 0, .int 0, .int 0, .int 0, .int 0])), aC cC q7 60 (fun _ => 0)] H := hP
  have hD : va_D A [(x, .inr (3, [.null, .int 0, .int 0, .int 0, .int 0, .int 0])), aC cC q7 60 (fun _ => 0)] := hD
  refine ag_finX3 hx hb hG hown hmn hK hP hD hS 0 0 rfl (by decide) k_168 (by decide) rfl rfl (Nat.le_of_ble_eq_true rfl) dX3_init_9 (fun H locs hP hD hS => ?_)
  have hP : va_P D vwCl [(x, .inr (3, [.ref q7, .int 0, .int 0, .int 0, .int 0, .int 0])), aC cC q7 60 (fun _ => 0)] H := hP
  have hD : va_D A [(x, .inr (3, [.ref q7, .int 0, .int 0, .int 0, .int 0, .int 0])), aC cC q7 60 (fun _ => 0)] := hD
  exact ag_cret hx hb hr hlocks hP hD hS ⟨q7, rfl⟩ dX3_init_12
abbrev po_X2_init (cI cC cL : ClassId) (x : Nat) : va_W → Prop := fun w' => [(x, .inr (2, [.int 0, .int 0, .int 0, .int 0]))] = w'
set_option maxHeartbeats 4000000 in
set_option maxRecDepth 100000 in
theorem ct_X2_init (l : Launch) (D : va_G) (cI cC cL : ClassId) (x : Nat) : ag_MC l yX2_init cX2_init 1 1 13 0 0 D cI cC cL [.ref x] [nX2 x] (po_X2_init cI cC cL x) := by
  refine ag_MC.of (plainFor_of_name (by decide)) (Nat.le_of_ble_eq_true rfl) ?_
  intro p e s m below meth c hx hb hr hlocks hml hown hmn hG hK hO A hN hA H locs hP hD hS ls hl
  have hl : lv_has ls 1 [(0, .ref x)] := hl
  refine lv_aload_n hx hb dX2_init_0 rfl (lv_at hl 0 rfl) ?_
  refine W.objInit hx hb hown (hG _ k_199) (hG _ k_44) (hG _ k_45) rfl (hl.1.trans hml.symm) rfl dX2_init_1 (Nat.le_of_ble_eq_true rfl) (Nat.le_of_ble_eq_true rfl) ?_
  refine W.eq (g2 := F0 m 4 ls []) rfl ?_
  exact ag_cret hx hb hr hlocks hP hD hS rfl dX2_init_4
