/-! the model: tick -/
def mq (ms : Nat → Int32) : Prop := ∃ N : Nat, ms 18 = nI N ∧ N ≤ 10
def nOf (ms : Nat → Int32) : Nat := (ms 18).toNatClampNeg
theorem mq_at {ms : Nat → Int32} (h : mq ms) : ms 18 = nI (nOf ms) ∧ nOf ms ≤ 10 := by
  obtain ⟨N, h1, h2⟩ := h
  unfold nOf
  rw [h1, nI_clamp (by omega)]
  exact ⟨rfl, h2⟩
theorem mq_of {ms : Nat → Int32} {N : Nat} (h : ms 18 = nI N ∧ N ≤ 10) : mq ms := ⟨N, h⟩
theorem opW_18 {ms : Nat → Int32} {d : Int32} {N : Nat} (hq : ms 18 = nI N ∧ N ≤ 10) : ∃ M : Nat, opW ms d N 18 = nI M ∧ M ≤ 10 := by
  have u : ∀ (f : Nat → Int32) (k : Nat) (v : Int32), k ≠ 18 → upd f k v 18 = f 18 := fun f k v h => by unfold upd; rw [if_neg (fun h2 => h h2.symm)]
  have u2 : ∀ (f : Nat → Int32) (v : Int32), upd f 18 v 18 = v := fun f v => by unfold upd; rw [if_pos rfl]
  have z : ∀ (g : Nat → Int32) (a : Nat), 19 ≤ a → zrf g a 7 18 = g 18 := fun g a h => by unfold zrf; rw [if_neg (by omega)]
  have e : ∀ (g : Nat → Int32) (a : Nat), 19 ≤ a → op5 g d a 18 = g 18 + 1 := fun g a h => by
    unfold op5 op4 op3 opZ
    rw [u2, u _ _ _ (by omega), u _ _ _ (by omega), z _ _ h, u _ _ _ (by omega)]
  have s : shf ms 63 18 = ms 18 := by unfold shf; rw [if_neg (by omega)]
  unfold opW
  split
  · exact ⟨N, hq⟩
  · split
    · refine ⟨10, ?_, by omega⟩
      rename_i h2
      rw [e _ _ (by omega)]
      unfold opG
      rw [u2, s, hq.1, h2]
      rfl
    · rename_i h2
      refine ⟨N + 1, ?_, by omega⟩
      rw [e _ _ (by omega), hq.1, nI_1]
def gv1_1_X6_tick (mf : Nat → Int32) (ms : Nat → Int32) : Nat → Int32 := sw0_X6_weighs mf ms
def xv27_2_X6_tick (mf : Nat → Int32) (ms : Nat → Int32) : Int32 := (ms 1) + ((gv1_1_X6_tick mf ms) 6)
def xv40_3_X6_tick (mf : Nat → Int32) (ms : Nat → Int32) : Int32 := (ms 2) + ((gv1_1_X6_tick mf ms) 9)
def xv50_4_X6_tick (ms : Nat → Int32) : Int32 := (ms 0) + 1
def xv64_5_X6_tick (mf : Nat → Int32) (ms : Nat → Int32) : Int32 := (ms 11) + ((gv1_1_X6_tick mf ms) 7)
def xv78_6_X6_tick (mf : Nat → Int32) (ms : Nat → Int32) : Int32 := (ms 12) + ((gv1_1_X6_tick mf ms) 8)
def j102_0_X6_tick (mf : Nat → Int32) (ms : Nat → Int32) : Int32 := if ((gv1_1_X6_tick mf ms) 6) ≤ 0 then 0 else (gv1_1_X6_tick mf ms) 6
def xv103_7_X6_tick (mf : Nat → Int32) (ms : Nat → Int32) : Int32 := (ms 13) + (j102_0_X6_tick mf ms)
def j128_0_X6_tick (mf : Nat → Int32) (ms : Nat → Int32) : Int32 := if 0 ≤ ((gv1_1_X6_tick mf ms) 6) then 0 else -((gv1_1_X6_tick mf ms) 6)
def xv129_8_X6_tick (mf : Nat → Int32) (ms : Nat → Int32) : Int32 := (ms 14) + (j128_0_X6_tick mf ms)
def j153_0_X6_tick (mf : Nat → Int32) (ms : Nat → Int32) : Int32 := if ((gv1_1_X6_tick mf ms) 9) ≤ 0 then 0 else (gv1_1_X6_tick mf ms) 9
def xv154_9_X6_tick (mf : Nat → Int32) (ms : Nat → Int32) : Int32 := (ms 16) + (j153_0_X6_tick mf ms)
def j179_0_X6_tick (mf : Nat → Int32) (ms : Nat → Int32) : Int32 := if 0 ≤ ((gv1_1_X6_tick mf ms) 9) then 0 else -((gv1_1_X6_tick mf ms) 9)
def xv180_10_X6_tick (mf : Nat → Int32) (ms : Nat → Int32) : Int32 := (ms 17) + (j179_0_X6_tick mf ms)
def gv183_11_X6_tick (mf : Nat → Int32) (ms : Nat → Int32) : Nat → Int32 := opW (upd (upd (upd (upd (upd (upd (upd (upd (upd ms 1 (xv27_2_X6_tick mf ms)) 2 (xv40_3_X6_tick mf ms)) 0 (xv50_4_X6_tick ms)) 11 (xv64_5_X6_tick mf ms)) 12 (xv78_6_X6_tick mf ms)) 13 (xv103_7_X6_tick mf ms)) 14 (xv129_8_X6_tick mf ms)) 16 (xv154_9_X6_tick mf ms)) 17 (xv180_10_X6_tick mf ms)) ((ms 0) / 144) (nOf ms)
def kv183_X6_tick (mf : Nat → Int32) (ms : Nat → Int32) : Nat := opK (upd (upd (upd (upd (upd (upd (upd (upd (upd ms 1 (xv27_2_X6_tick mf ms)) 2 (xv40_3_X6_tick mf ms)) 0 (xv50_4_X6_tick ms)) 11 (xv64_5_X6_tick mf ms)) 12 (xv78_6_X6_tick mf ms)) 13 (xv103_7_X6_tick mf ms)) 14 (xv129_8_X6_tick mf ms)) 16 (xv154_9_X6_tick mf ms)) 17 (xv180_10_X6_tick mf ms)) ((ms 0) / 144) (nOf ms)
def xv201_12_X6_tick (mf : Nat → Int32) (ms : Nat → Int32) : Int32 := ((gv183_11_X6_tick mf ms) ((19 + 7 * (kv183_X6_tick mf ms)) + 1)) + ((gv1_1_X6_tick mf ms) 7)
def xv216_13_X6_tick (mf : Nat → Int32) (ms : Nat → Int32) : Int32 := ((gv183_11_X6_tick mf ms) ((19 + 7 * (kv183_X6_tick mf ms)) + 2)) + ((gv1_1_X6_tick mf ms) 8)
def j254_0_X6_tick (mf : Nat → Int32) (ms : Nat → Int32) : Int32 := if (sr_X6_level (upd (upd (gv183_11_X6_tick mf ms) ((19 + 7 * (kv183_X6_tick mf ms)) + 1) (xv201_12_X6_tick mf ms)) ((19 + 7 * (kv183_X6_tick mf ms)) + 2) (xv216_13_X6_tick mf ms))) ≤ ((gv183_11_X6_tick mf ms) ((19 + 7 * (kv183_X6_tick mf ms)) + 3)) then (gv183_11_X6_tick mf ms) ((19 + 7 * (kv183_X6_tick mf ms)) + 3) else sr_X6_level (upd (upd (gv183_11_X6_tick mf ms) ((19 + 7 * (kv183_X6_tick mf ms)) + 1) (xv201_12_X6_tick mf ms)) ((19 + 7 * (kv183_X6_tick mf ms)) + 2) (xv216_13_X6_tick mf ms))
def xv254_14_X6_tick (mf : Nat → Int32) (ms : Nat → Int32) : Int32 := j254_0_X6_tick mf ms
def j292_0_X6_tick (mf : Nat → Int32) (ms : Nat → Int32) : Int32 := if ((gv183_11_X6_tick mf ms) ((19 + 7 * (kv183_X6_tick mf ms)) + 4)) ≤ (sr_X6_level (upd (upd (upd (gv183_11_X6_tick mf ms) ((19 + 7 * (kv183_X6_tick mf ms)) + 1) (xv201_12_X6_tick mf ms)) ((19 + 7 * (kv183_X6_tick mf ms)) + 2) (xv216_13_X6_tick mf ms)) ((19 + 7 * (kv183_X6_tick mf ms)) + 3) (xv254_14_X6_tick mf ms))) then (gv183_11_X6_tick mf ms) ((19 + 7 * (kv183_X6_tick mf ms)) + 4) else sr_X6_level (upd (upd (upd (gv183_11_X6_tick mf ms) ((19 + 7 * (kv183_X6_tick mf ms)) + 1) (xv201_12_X6_tick mf ms)) ((19 + 7 * (kv183_X6_tick mf ms)) + 2) (xv216_13_X6_tick mf ms)) ((19 + 7 * (kv183_X6_tick mf ms)) + 3) (xv254_14_X6_tick mf ms))
def xv292_15_X6_tick (mf : Nat → Int32) (ms : Nat → Int32) : Int32 := j292_0_X6_tick mf ms
def j317_0_X6_tick (mf : Nat → Int32) (ms : Nat → Int32) : Int32 := if ((gv1_1_X6_tick mf ms) 6) ≤ 0 then 0 else (gv1_1_X6_tick mf ms) 6
def xv318_16_X6_tick (mf : Nat → Int32) (ms : Nat → Int32) : Int32 := ((gv183_11_X6_tick mf ms) ((19 + 7 * (kv183_X6_tick mf ms)) + 5)) + (j317_0_X6_tick mf ms)
def j345_0_X6_tick (mf : Nat → Int32) (ms : Nat → Int32) : Int32 := if 0 ≤ ((gv1_1_X6_tick mf ms) 6) then 0 else -((gv1_1_X6_tick mf ms) 6)
def xv346_17_X6_tick (mf : Nat → Int32) (ms : Nat → Int32) : Int32 := ((gv183_11_X6_tick mf ms) ((19 + 7 * (kv183_X6_tick mf ms)) + 6)) + (j345_0_X6_tick mf ms)
def sw0_X6_tick (mf : Nat → Int32) (ms : Nat → Int32) : Nat → Int32 := (gv1_1_X6_tick mf ms)
def sw1_X6_tick (mf : Nat → Int32) (ms : Nat → Int32) : Nat → Int32 := upd (upd (upd (upd (upd (upd (gv183_11_X6_tick mf ms) ((19 + 7 * (kv183_X6_tick mf ms)) + 1) (xv201_12_X6_tick mf ms)) ((19 + 7 * (kv183_X6_tick mf ms)) + 2) (xv216_13_X6_tick mf ms)) ((19 + 7 * (kv183_X6_tick mf ms)) + 3) (xv254_14_X6_tick mf ms)) ((19 + 7 * (kv183_X6_tick mf ms)) + 4) (xv292_15_X6_tick mf ms)) ((19 + 7 * (kv183_X6_tick mf ms)) + 5) (xv318_16_X6_tick mf ms)) ((19 + 7 * (kv183_X6_tick mf ms)) + 6) (xv346_17_X6_tick mf ms)
abbrev po_X6_tick (cI cC cL : ClassId) (m0 m1 m2 m3 m4 m5 m6 : Nat) (mf ms : Nat → Int32) (hq : mq ms) : va_W → Prop := fun w' => [oM m0 m1 m2 m3 m4 m5 m6 (sw0_X6_tick mf ms), aI cI m1 89 (sw1_X6_tick mf ms)] = w'
set_option maxHeartbeats 4000000 in
set_option maxRecDepth 100000 in
theorem ct_X6_tick (l : Launch) (D : va_G) (cI cC cL : ClassId) (m0 m1 m2 m3 m4 m5 m6 : Nat) (mf ms : Nat → Int32) (hq : mq ms) : ag_MV l yX6_tick cX6_tick 3 5 105 D cI cC cL [.ref m0] [oM m0 m1 m2 m3 m4 m5 m6 mf, aI cI m1 89 ms] (po_X6_tick cI cC cL m0 m1 m2 m3 m4 m5 m6 mf ms hq) := by
  refine ag_MV.of (plainFor_of_name (by decide)) (Nat.le_of_ble_eq_true rfl) ?_
  intro p e s m below meth c hx hb hr hlocks hml hown hmn hG hK A hN hA H locs hP hD hS ls hl
  have hl : lv_has ls 3 [(0, .ref m0)] := hl
  refine lv_aload_n hx hb dX6_tick_0 rfl (lv_at hl 0 rfl) ?_
  refine ag_callVv (As := []) (rest := []) hx hb hml hown hG hK hN hA hP hD hS hl (ct_X6_weighs l D cI cC cL m0 m1 m2 m3 m4 m5 m6 mf ms) fX6_weighs k_644 ag_cut_all (q0 := 0) rfl rfl rfl rfl (Nat.le_of_ble_eq_true rfl) ⟨Nat.le_of_ble_eq_true rfl, Nat.le_of_ble_eq_true rfl⟩ ⟨Nat.zero_le _, Nat.zero_le _⟩ dX6_tick_1 (fun w1 H locs hw hP hD hS => ?_)
  have hw : _ = w1 := hw
  generalize eg1_1 : sw0_X6_weighs mf ms = g1_1 at hw
  replace eg1_1 : gv1_1_X6_tick mf ms = g1_1 := (by rw [← eg1_1]; rfl)
  subst hw
  have hP : va_P D vwCl [oM m0 m1 m2 m3 m4 m5 m6 g1_1, aI cI m1 89 ms] H := hP
  have hD : va_D A [oM m0 m1 m2 m3 m4 m5 m6 g1_1, aI cI m1 89 ms] := hD
  refine lv_aload_n hx hb dX6_tick_4 rfl (lv_at hl 0 rfl) ?_
  refine ag_getX6 (v := .ref m1) hx hb hG hown hK hP 0 0 rfl (by decide) k_536 rfl dX6_tick_5 ?_
  refine lv_iconst (v := 0) hx hb dX6_tick_8 (by decide) ?_
  refine ag_ild (k := 0) (v := ms 0) hx hb hK hP 1 rfl rfl (Nat.le_of_ble_eq_true rfl) (Nat.le_of_ble_eq_true rfl) rfl dX6_tick_9 ?_
  refine lv_sipush (v := 144) hx hb dX6_tick_10 (by decide) ?_
  refine lv_idiv hx hb dX6_tick_13 (by decide) ?_
  refine lv_istore_n (lv' := [(1, .int ((ms 0) / 144)), (0, .ref m0)]) hx hb dX6_tick_14 rfl hl (by decide) rfl (fun ls hl => ?_)
  refine lv_aload_n hx hb dX6_tick_15 rfl (lv_at hl 1 rfl) ?_
  refine ag_getX6 (v := .ref m1) hx hb hG hown hK hP 0 0 rfl (by decide) k_536 rfl dX6_tick_16 ?_
  refine lv_iconst (v := 1) hx hb dX6_tick_19 (by decide) ?_
  refine lv_dup2_11 hx hb dX6_tick_20 rfl rfl ?_
  refine ag_ild (k := 1) (v := ms 1) hx hb hK hP 1 rfl rfl (Nat.le_of_ble_eq_true rfl) (Nat.le_of_ble_eq_true rfl) rfl dX6_tick_21 ?_
  refine lv_aload_n hx hb dX6_tick_22 rfl (lv_at hl 1 rfl) ?_
  refine ag_getX6 (v := .int (g1_1 6)) hx hb hG hown hK hP 0 11 rfl (by decide) k_547 rfl dX6_tick_23 ?_
  refine lv_iadd hx hb dX6_tick_26 ?_
  refine ag_topn (v := xv27_2_X6_tick mf ms) (by rw [← eg1_1]; rfl) (fun x27_2 ex27_2 => ?_)
  refine ag_ist (k := 1) hx hb hK hP hD hS 1 rfl rfl (Nat.le_of_ble_eq_true rfl) (Nat.le_of_ble_eq_true rfl) dX6_tick_27 (fun H locs hP hD hS => ?_)
  have hP : va_P D vwCl [oM m0 m1 m2 m3 m4 m5 m6 g1_1, aI cI m1 89 (upd ms 1 x27_2)] H := hP
  have hD : va_D A [oM m0 m1 m2 m3 m4 m5 m6 g1_1, aI cI m1 89 (upd ms 1 x27_2)] := hD
  refine lv_aload_n hx hb dX6_tick_28 rfl (lv_at hl 1 rfl) ?_
  refine ag_getX6 (v := .ref m1) hx hb hG hown hK hP 0 0 rfl (by decide) k_536 rfl dX6_tick_29 ?_
  refine lv_iconst (v := 2) hx hb dX6_tick_32 (by decide) ?_
  refine lv_dup2_11 hx hb dX6_tick_33 rfl rfl ?_
  refine ag_ild (k := 2) (v := ms 2) hx hb hK hP 1 rfl rfl (Nat.le_of_ble_eq_true rfl) (Nat.le_of_ble_eq_true rfl) rfl dX6_tick_34 ?_
  refine lv_aload_n hx hb dX6_tick_35 rfl (lv_at hl 1 rfl) ?_
  refine ag_getX6 (v := .int (g1_1 9)) hx hb hG hown hK hP 0 14 rfl (by decide) k_550 rfl dX6_tick_36 ?_
  refine lv_iadd hx hb dX6_tick_39 ?_
  refine ag_topn (v := xv40_3_X6_tick mf ms) (by rw [← eg1_1]; rfl) (fun x40_3 ex40_3 => ?_)
  refine ag_ist (k := 2) hx hb hK hP hD hS 1 rfl rfl (Nat.le_of_ble_eq_true rfl) (Nat.le_of_ble_eq_true rfl) dX6_tick_40 (fun H locs hP hD hS => ?_)
  have hP : va_P D vwCl [oM m0 m1 m2 m3 m4 m5 m6 g1_1, aI cI m1 89 (upd (upd ms 1 x27_2) 2 x40_3)] H := hP
  have hD : va_D A [oM m0 m1 m2 m3 m4 m5 m6 g1_1, aI cI m1 89 (upd (upd ms 1 x27_2) 2 x40_3)] := hD
  refine lv_aload_n hx hb dX6_tick_41 rfl (lv_at hl 1 rfl) ?_
  refine ag_getX6 (v := .ref m1) hx hb hG hown hK hP 0 0 rfl (by decide) k_536 rfl dX6_tick_42 ?_
  refine lv_iconst (v := 0) hx hb dX6_tick_45 (by decide) ?_
  refine lv_dup2_11 hx hb dX6_tick_46 rfl rfl ?_
  refine ag_ild (k := 0) (v := ms 0) hx hb hK hP 1 rfl rfl (Nat.le_of_ble_eq_true rfl) (Nat.le_of_ble_eq_true rfl) rfl dX6_tick_47 ?_
  refine lv_iconst (v := 1) hx hb dX6_tick_48 (by decide) ?_
  refine lv_iadd hx hb dX6_tick_49 ?_
  refine ag_topn (v := xv50_4_X6_tick ms) rfl (fun x50_4 ex50_4 => ?_)
  refine ag_ist (k := 0) hx hb hK hP hD hS 1 rfl rfl (Nat.le_of_ble_eq_true rfl) (Nat.le_of_ble_eq_true rfl) dX6_tick_50 (fun H locs hP hD hS => ?_)
  have hP : va_P D vwCl [oM m0 m1 m2 m3 m4 m5 m6 g1_1, aI cI m1 89 (upd (upd (upd ms 1 x27_2) 2 x40_3) 0 x50_4)] H := hP
  have hD : va_D A [oM m0 m1 m2 m3 m4 m5 m6 g1_1, aI cI m1 89 (upd (upd (upd ms 1 x27_2) 2 x40_3) 0 x50_4)] := hD
  refine lv_aload_n hx hb dX6_tick_51 rfl (lv_at hl 1 rfl) ?_
  refine ag_getX6 (v := .ref m1) hx hb hG hown hK hP 0 0 rfl (by decide) k_536 rfl dX6_tick_52 ?_
  refine lv_bipush (v := 11) hx hb dX6_tick_55 (by decide) ?_
  refine lv_dup2_11 hx hb dX6_tick_57 rfl rfl ?_
  refine ag_ild (k := 11) (v := ms 11) hx hb hK hP 1 rfl rfl (Nat.le_of_ble_eq_true rfl) (Nat.le_of_ble_eq_true rfl) rfl dX6_tick_58 ?_
  refine lv_aload_n hx hb dX6_tick_59 rfl (lv_at hl 1 rfl) ?_
  refine ag_getX6 (v := .int (g1_1 7)) hx hb hG hown hK hP 0 12 rfl (by decide) k_548 rfl dX6_tick_60 ?_
  refine lv_iadd hx hb dX6_tick_63 ?_
  refine ag_topn (v := xv64_5_X6_tick mf ms) (by rw [← eg1_1]; rfl) (fun x64_5 ex64_5 => ?_)
  refine ag_ist (k := 11) hx hb hK hP hD hS 1 rfl rfl (Nat.le_of_ble_eq_true rfl) (Nat.le_of_ble_eq_true rfl) dX6_tick_64 (fun H locs hP hD hS => ?_)
  have hP : va_P D vwCl [oM m0 m1 m2 m3 m4 m5 m6 g1_1, aI cI m1 89 (upd (upd (upd (upd ms 1 x27_2) 2 x40_3) 0 x50_4) 11 x64_5)] H := hP
  have hD : va_D A [oM m0 m1 m2 m3 m4 m5 m6 g1_1, aI cI m1 89 (upd (upd (upd (upd ms 1 x27_2) 2 x40_3) 0 x50_4) 11 x64_5)] := hD
  refine lv_aload_n hx hb dX6_tick_65 rfl (lv_at hl 1 rfl) ?_
  refine ag_getX6 (v := .ref m1) hx hb hG hown hK hP 0 0 rfl (by decide) k_536 rfl dX6_tick_66 ?_
  refine lv_bipush (v := 12) hx hb dX6_tick_69 (by decide) ?_
  refine lv_dup2_11 hx hb dX6_tick_71 rfl rfl ?_
  refine ag_ild (k := 12) (v := ms 12) hx hb hK hP 1 rfl rfl (Nat.le_of_ble_eq_true rfl) (Nat.le_of_ble_eq_true rfl) rfl dX6_tick_72 ?_
  refine lv_aload_n hx hb dX6_tick_73 rfl (lv_at hl 1 rfl) ?_
  refine ag_getX6 (v := .int (g1_1 8)) hx hb hG hown hK hP 0 13 rfl (by decide) k_549 rfl dX6_tick_74 ?_
  refine lv_iadd hx hb dX6_tick_77 ?_
  refine ag_topn (v := xv78_6_X6_tick mf ms) (by rw [← eg1_1]; rfl) (fun x78_6 ex78_6 => ?_)
  refine ag_ist (k := 12) hx hb hK hP hD hS 1 rfl rfl (Nat.le_of_ble_eq_true rfl) (Nat.le_of_ble_eq_true rfl) dX6_tick_78 (fun H locs hP hD hS => ?_)
  have hP : va_P D vwCl [oM m0 m1 m2 m3 m4 m5 m6 g1_1, aI cI m1 89 (upd (upd (upd (upd (upd ms 1 x27_2) 2 x40_3) 0 x50_4) 11 x64_5) 12 x78_6)] H := hP
  have hD : va_D A [oM m0 m1 m2 m3 m4 m5 m6 g1_1, aI cI m1 89 (upd (upd (upd (upd (upd ms 1 x27_2) 2 x40_3) 0 x50_4) 11 x64_5) 12 x78_6)] := hD
  refine lv_aload_n hx hb dX6_tick_79 rfl (lv_at hl 1 rfl) ?_
  refine ag_getX6 (v := .ref m1) hx hb hG hown hK hP 0 0 rfl (by decide) k_536 rfl dX6_tick_80 ?_
  refine lv_bipush (v := 13) hx hb dX6_tick_83 (by decide) ?_
  refine lv_dup2_11 hx hb dX6_tick_85 rfl rfl ?_
  refine ag_ild (k := 13) (v := ms 13) hx hb hK hP 1 rfl rfl (Nat.le_of_ble_eq_true rfl) (Nat.le_of_ble_eq_true rfl) rfl dX6_tick_86 ?_
  refine lv_aload_n hx hb dX6_tick_87 rfl (lv_at hl 1 rfl) ?_
  refine ag_getX6 (v := .int (g1_1 6)) hx hb hG hown hK hP 0 11 rfl (by decide) k_547 rfl dX6_tick_88 ?_
  have J102 : ∀ (ls : Array Slot), lv_has ls 3 [(0, .ref m0), (1, .int ((ms 0) / 144))] → W p l e (ag_rm 5 105) s m ([.ref m0] : List Value).toArray below meth c H locs 0 0 (MQ below (va_Qv (po_X6_tick cI cC cL m0 m1 m2 m3 m4 m5 m6 mf ms hq) (ag_Out D [oM m0 m1 m2 m3 m4 m5 m6 mf, aI cI m1 89 ms]) A) ([.ref m0] : List Value).toArray s 0 0 A) (F0 m 102 ls [.int (j102_0_X6_tick mf ms), .int (ms 13), .int 13, .ref m1]) := by
    intro ls hl
    refine lv_iadd hx hb dX6_tick_102 ?_
    refine ag_topn (v := xv103_7_X6_tick mf ms) rfl (fun x103_7 ex103_7 => ?_)
    refine ag_ist (k := 13) hx hb hK hP hD hS 1 rfl rfl (Nat.le_of_ble_eq_true rfl) (Nat.le_of_ble_eq_true rfl) dX6_tick_103 (fun H locs hP hD hS => ?_)
    have hP : va_P D vwCl [oM m0 m1 m2 m3 m4 m5 m6 g1_1, aI cI m1 89 (upd (upd (upd (upd (upd (upd ms 1 x27_2) 2 x40_3) 0 x50_4) 11 x64_5) 12 x78_6) 13 x103_7)] H := hP
    have hD : va_D A [oM m0 m1 m2 m3 m4 m5 m6 g1_1, aI cI m1 89 (upd (upd (upd (upd (upd (upd ms 1 x27_2) 2 x40_3) 0 x50_4) 11 x64_5) 12 x78_6) 13 x103_7)] := hD
    refine lv_aload_n hx hb dX6_tick_104 rfl (lv_at hl 0 rfl) ?_
    refine ag_getX6 (v := .ref m1) hx hb hG hown hK hP 0 0 rfl (by decide) k_536 rfl dX6_tick_105 ?_
    refine lv_bipush (v := 14) hx hb dX6_tick_108 (by decide) ?_
    refine lv_dup2_11 hx hb dX6_tick_110 rfl rfl ?_
    refine ag_ild (k := 14) (v := ms 14) hx hb hK hP 1 rfl rfl (Nat.le_of_ble_eq_true rfl) (Nat.le_of_ble_eq_true rfl) rfl dX6_tick_111 ?_
    refine lv_aload_n hx hb dX6_tick_112 rfl (lv_at hl 0 rfl) ?_
    refine ag_getX6 (v := .int (g1_1 6)) hx hb hG hown hK hP 0 11 rfl (by decide) k_547 rfl dX6_tick_113 ?_
    have J128 : ∀ (ls : Array Slot), lv_has ls 3 [(0, .ref m0), (1, .int ((ms 0) / 144))] → W p l e (ag_rm 5 105) s m ([.ref m0] : List Value).toArray below meth c H locs 0 0 (MQ below (va_Qv (po_X6_tick cI cC cL m0 m1 m2 m3 m4 m5 m6 mf ms hq) (ag_Out D [oM m0 m1 m2 m3 m4 m5 m6 mf, aI cI m1 89 ms]) A) ([.ref m0] : List Value).toArray s 0 0 A) (F0 m 128 ls [.int (j128_0_X6_tick mf ms), .int (ms 14), .int 14, .ref m1]) := by
      intro ls hl
      refine lv_iadd hx hb dX6_tick_128 ?_
      refine ag_topn (v := xv129_8_X6_tick mf ms) rfl (fun x129_8 ex129_8 => ?_)
      refine ag_ist (k := 14) hx hb hK hP hD hS 1 rfl rfl (Nat.le_of_ble_eq_true rfl) (Nat.le_of_ble_eq_true rfl) dX6_tick_129 (fun H locs hP hD hS => ?_)
      have hP : va_P D vwCl [oM m0 m1 m2 m3 m4 m5 m6 g1_1, aI cI m1 89 (upd (upd (upd (upd (upd (upd (upd ms 1 x27_2) 2 x40_3) 0 x50_4) 11 x64_5) 12 x78_6) 13 x103_7) 14 x129_8)] H := hP
      have hD : va_D A [oM m0 m1 m2 m3 m4 m5 m6 g1_1, aI cI m1 89 (upd (upd (upd (upd (upd (upd (upd ms 1 x27_2) 2 x40_3) 0 x50_4) 11 x64_5) 12 x78_6) 13 x103_7) 14 x129_8)] := hD
      refine lv_aload_n hx hb dX6_tick_130 rfl (lv_at hl 0 rfl) ?_
      refine ag_getX6 (v := .ref m1) hx hb hG hown hK hP 0 0 rfl (by decide) k_536 rfl dX6_tick_131 ?_
      refine lv_bipush (v := 16) hx hb dX6_tick_134 (by decide) ?_
      refine lv_dup2_11 hx hb dX6_tick_136 rfl rfl ?_
      refine ag_ild (k := 16) (v := ms 16) hx hb hK hP 1 rfl rfl (Nat.le_of_ble_eq_true rfl) (Nat.le_of_ble_eq_true rfl) rfl dX6_tick_137 ?_
      refine lv_aload_n hx hb dX6_tick_138 rfl (lv_at hl 0 rfl) ?_
      refine ag_getX6 (v := .int (g1_1 9)) hx hb hG hown hK hP 0 14 rfl (by decide) k_550 rfl dX6_tick_139 ?_
      have J153 : ∀ (ls : Array Slot), lv_has ls 3 [(0, .ref m0), (1, .int ((ms 0) / 144))] → W p l e (ag_rm 5 105) s m ([.ref m0] : List Value).toArray below meth c H locs 0 0 (MQ below (va_Qv (po_X6_tick cI cC cL m0 m1 m2 m3 m4 m5 m6 mf ms hq) (ag_Out D [oM m0 m1 m2 m3 m4 m5 m6 mf, aI cI m1 89 ms]) A) ([.ref m0] : List Value).toArray s 0 0 A) (F0 m 153 ls [.int (j153_0_X6_tick mf ms), .int (ms 16), .int 16, .ref m1]) := by
        intro ls hl
        refine lv_iadd hx hb dX6_tick_153 ?_
        refine ag_topn (v := xv154_9_X6_tick mf ms) rfl (fun x154_9 ex154_9 => ?_)
        refine ag_ist (k := 16) hx hb hK hP hD hS 1 rfl rfl (Nat.le_of_ble_eq_true rfl) (Nat.le_of_ble_eq_true rfl) dX6_tick_154 (fun H locs hP hD hS => ?_)
        have hP : va_P D vwCl [oM m0 m1 m2 m3 m4 m5 m6 g1_1, aI cI m1 89 (upd (upd (upd (upd (upd (upd (upd (upd ms 1 x27_2) 2 x40_3) 0 x50_4) 11 x64_5) 12 x78_6) 13 x103_7) 14 x129_8) 16 x154_9)] H := hP
        have hD : va_D A [oM m0 m1 m2 m3 m4 m5 m6 g1_1, aI cI m1 89 (upd (upd (upd (upd (upd (upd (upd (upd ms 1 x27_2) 2 x40_3) 0 x50_4) 11 x64_5) 12 x78_6) 13 x103_7) 14 x129_8) 16 x154_9)] := hD
        refine lv_aload_n hx hb dX6_tick_155 rfl (lv_at hl 0 rfl) ?_
        refine ag_getX6 (v := .ref m1) hx hb hG hown hK hP 0 0 rfl (by decide) k_536 rfl dX6_tick_156 ?_
        refine lv_bipush (v := 17) hx hb dX6_tick_159 (by decide) ?_
        refine lv_dup2_11 hx hb dX6_tick_161 rfl rfl ?_
        refine ag_ild (k := 17) (v := ms 17) hx hb hK hP 1 rfl rfl (Nat.le_of_ble_eq_true rfl) (Nat.le_of_ble_eq_true rfl) rfl dX6_tick_162 ?_
        refine lv_aload_n hx hb dX6_tick_163 rfl (lv_at hl 0 rfl) ?_
        refine ag_getX6 (v := .int (g1_1 9)) hx hb hG hown hK hP 0 14 rfl (by decide) k_550 rfl dX6_tick_164 ?_
        have J179 : ∀ (ls : Array Slot), lv_has ls 3 [(0, .ref m0), (1, .int ((ms 0) / 144))] → W p l e (ag_rm 5 105) s m ([.ref m0] : List Value).toArray below meth c H locs 0 0 (MQ below (va_Qv (po_X6_tick cI cC cL m0 m1 m2 m3 m4 m5 m6 mf ms hq) (ag_Out D [oM m0 m1 m2 m3 m4 m5 m6 mf, aI cI m1 89 ms]) A) ([.ref m0] : List Value).toArray s 0 0 A) (F0 m 179 ls [.int (j179_0_X6_tick mf ms), .int (ms 17), .int 17, .ref m1]) := by
          intro ls hl
          refine lv_iadd hx hb dX6_tick_179 ?_
          refine ag_topn (v := xv180_10_X6_tick mf ms) rfl (fun x180_10 ex180_10 => ?_)
          refine ag_ist (k := 17) hx hb hK hP hD hS 1 rfl rfl (Nat.le_of_ble_eq_true rfl) (Nat.le_of_ble_eq_true rfl) dX6_tick_180 (fun H locs hP hD hS => ?_)
          have hP : va_P D vwCl [oM m0 m1 m2 m3 m4 m5 m6 g1_1, aI cI m1 89 (upd (upd (upd (upd (upd (upd (upd (upd (upd ms 1 x27_2) 2 x40_3) 0 x50_4) 11 x64_5) 12 x78_6) 13 x103_7) 14 x129_8) 16 x154_9) 17 x180_10)] H := hP
          have hD : va_D A [oM m0 m1 m2 m3 m4 m5 m6 g1_1, aI cI m1 89 (upd (upd (upd (upd (upd (upd (upd (upd (upd ms 1 x27_2) 2 x40_3) 0 x50_4) 11 x64_5) 12 x78_6) 13 x103_7) 14 x129_8) 16 x154_9) 17 x180_10)] := hD
          refine lv_aload_n hx hb dX6_tick_181 rfl (lv_at hl 0 rfl) ?_
          refine lv_iload_n hx hb dX6_tick_182 rfl (lv_at hl 1 rfl) ?_
          refine ag_callVi (As := [.int ((ms 0) / 144)]) (rest := []) hx hb hml hown hG hK hN hA hP hD hS hl (ct_X6_opens l D cI cC cL m0 m1 m2 m3 m4 m5 m6 g1_1 (upd (upd (upd (upd (upd (upd (upd (upd (upd ms 1 x27_2) 2 x40_3) 0 x50_4) 11 x64_5) 12 x78_6) 13 x103_7) 14 x129_8) 16 x154_9) 17 x180_10) ((ms 0) / 144) (nOf ms) (mq_at hq)) fX6_opens k_670 ag_cut_all (q0 := 0) rfl rfl rfl rfl (Nat.le_of_ble_eq_true rfl) ⟨Nat.le_of_ble_eq_true rfl, Nat.le_of_ble_eq_true rfl⟩ ⟨Nat.zero_le _, Nat.zero_le _⟩ dX6_tick_183 (fun r w1 H locs hw hP hD hS => ?_)
          obtain ⟨rfl, hw⟩ := hw
          generalize eg183_11 : opW (upd (upd (upd (upd (upd (upd (upd (upd (upd ms 1 x27_2) 2 x40_3) 0 x50_4) 11 x64_5) 12 x78_6) 13 x103_7) 14 x129_8) 16 x154_9) 17 x180_10) ((ms 0) / 144) (nOf ms) = g183_11 at hw
          replace eg183_11 : gv183_11_X6_tick mf ms = g183_11 := (by rw [← eg183_11, ← ex27_2, ← ex40_3, ← ex50_4, ← ex64_5, ← ex78_6, ← ex103_7, ← ex129_8, ← ex154_9, ← ex180_10]; rfl)
          subst hw
          have hP : va_P D vwCl [oM m0 m1 m2 m3 m4 m5 m6 g1_1, aI cI m1 89 g183_11] H := hP
          have hD : va_D A [oM m0 m1 m2 m3 m4 m5 m6 g1_1, aI cI m1 89 g183_11] := hD
          generalize ea183 : opK (upd (upd (upd (upd (upd (upd (upd (upd (upd ms 1 x27_2) 2 x40_3) 0 x50_4) 11 x64_5) 12 x78_6) 13 x103_7) 14 x129_8) 16 x154_9) 17 x180_10) ((ms 0) / 144) (nOf ms) = a183
          have ha183 : a183 ≤ 9 := by rw [← ea183]; exact opK_le (mq_at hq).2
          replace ea183 : kv183_X6_tick mf ms = a183 := (by rw [← ea183, ← ex27_2, ← ex40_3, ← ex50_4, ← ex64_5, ← ex78_6, ← ex103_7, ← ex129_8, ← ex154_9, ← ex180_10]; rfl)
          refine lv_istore_n (lv' := [(2, .int (nI (19 + 7 * a183))), (0, .ref m0), (1, .int ((ms 0) / 144))]) hx hb dX6_tick_186 rfl hl (by decide) rfl (fun ls hl => ?_)
          refine lv_aload_n hx hb dX6_tick_187 rfl (lv_at hl 1 rfl) ?_
          refine ag_getX6 (v := .ref m1) hx hb hG hown hK hP 0 0 rfl (by decide) k_536 rfl dX6_tick_188 ?_
          refine lv_iload_n hx hb dX6_tick_191 rfl (lv_at hl 0 rfl) ?_
          refine lv_iconst (v := 1) hx hb dX6_tick_192 (by decide) ?_
          refine lv_iadd hx hb dX6_tick_193 ?_
          refine lv_dup2_11 hx hb dX6_tick_194 rfl rfl ?_
          refine ag_ild (k := (19 + 7 * a183) + 1) (v := g183_11 ((19 + 7 * a183) + 1)) hx hb hK hP 1 rfl (nI_add _ 1) (by have := ha183; omega) (Nat.le_of_ble_eq_true rfl) rfl dX6_tick_195 ?_
          refine lv_aload_n hx hb dX6_tick_196 rfl (lv_at hl 1 rfl) ?_
          refine ag_getX6 (v := .int (g1_1 7)) hx hb hG hown hK hP 0 12 rfl (by decide) k_548 rfl dX6_tick_197 ?_
          refine lv_iadd hx hb dX6_tick_200 ?_
          refine ag_topn (v := xv201_12_X6_tick mf ms) (by rw [← eg1_1, ← eg183_11, ← ea183]; rfl) (fun x201_12 ex201_12 => ?_)
          refine ag_ist (k := (19 + 7 * a183) + 1) hx hb hK hP hD hS 1 rfl (nI_add _ 1) (by have := ha183; omega) (Nat.le_of_ble_eq_true rfl) dX6_tick_201 (fun H locs hP hD hS => ?_)
          have hP : va_P D vwCl [oM m0 m1 m2 m3 m4 m5 m6 g1_1, aI cI m1 89 (upd g183_11 ((19 + 7 * a183) + 1) x201_12)] H := hP
          have hD : va_D A [oM m0 m1 m2 m3 m4 m5 m6 g1_1, aI cI m1 89 (upd g183_11 ((19 + 7 * a183) + 1) x201_12)] := hD
          refine lv_aload_n hx hb dX6_tick_202 rfl (lv_at hl 1 rfl) ?_
          refine ag_getX6 (v := .ref m1) hx hb hG hown hK hP 0 0 rfl (by decide) k_536 rfl dX6_tick_203 ?_
          refine lv_iload_n hx hb dX6_tick_206 rfl (lv_at hl 0 rfl) ?_
          refine lv_iconst (v := 2) hx hb dX6_tick_207 (by decide) ?_
          refine lv_iadd hx hb dX6_tick_208 ?_
          refine lv_dup2_11 hx hb dX6_tick_209 rfl rfl ?_
          refine ag_ild (k := (19 + 7 * a183) + 2) (v := g183_11 ((19 + 7 * a183) + 2)) hx hb hK hP 1 rfl (nI_add _ 2) (by have := ha183; omega) (Nat.le_of_ble_eq_true rfl) (Eq.trans (pk_un (by omega)) rfl) dX6_tick_210 ?_
          refine lv_aload_n hx hb dX6_tick_211 rfl (lv_at hl 1 rfl) ?_
          refine ag_getX6 (v := .int (g1_1 8)) hx hb hG hown hK hP 0 13 rfl (by decide) k_549 rfl dX6_tick_212 ?_
          refine lv_iadd hx hb dX6_tick_215 ?_
          refine ag_topn (v := xv216_13_X6_tick mf ms) (by rw [← eg1_1, ← eg183_11, ← ea183]; rfl) (fun x216_13 ex216_13 => ?_)
          refine ag_ist (k := (19 + 7 * a183) + 2) hx hb hK hP hD hS 1 rfl (nI_add _ 2) (by have := ha183; omega) (Nat.le_of_ble_eq_true rfl) dX6_tick_216 (fun H locs hP hD hS => ?_)
          have hP : va_P D vwCl [oM m0 m1 m2 m3 m4 m5 m6 g1_1, aI cI m1 89 (upd (upd g183_11 ((19 + 7 * a183) + 1) x201_12) ((19 + 7 * a183) + 2) x216_13)] H := hP
          have hD : va_D A [oM m0 m1 m2 m3 m4 m5 m6 g1_1, aI cI m1 89 (upd (upd g183_11 ((19 + 7 * a183) + 1) x201_12) ((19 + 7 * a183) + 2) x216_13)] := hD
          refine lv_aload_n hx hb dX6_tick_217 rfl (lv_at hl 1 rfl) ?_
          refine ag_getX6 (v := .ref m1) hx hb hG hown hK hP 0 0 rfl (by decide) k_536 rfl dX6_tick_218 ?_
          refine lv_iload_n hx hb dX6_tick_221 rfl (lv_at hl 0 rfl) ?_
          refine lv_iconst (v := 3) hx hb dX6_tick_222 (by decide) ?_
          refine lv_iadd hx hb dX6_tick_223 ?_
          refine lv_aload_n hx hb dX6_tick_224 rfl (lv_at hl 1 rfl) ?_
          refine ag_callVi (As := []) (rest := [.int ((nI (19 + 7 * a183)) + 3), .ref m1]) hx hb hml hown hG hK hN hA hP hD hS hl (ct_X6_level l D cI cC cL m0 m1 m2 m3 m4 m5 m6 g1_1 (upd (upd g183_11 ((19 + 7 * a183) + 1) x201_12) ((19 + 7 * a183) + 2) x216_13)) fX6_level k_661 ag_cut_all (q0 := 0) rfl rfl rfl rfl (Nat.le_of_ble_eq_true rfl) ⟨Nat.le_of_ble_eq_true rfl, Nat.le_of_ble_eq_true rfl⟩ ⟨Nat.zero_le _, Nat.zero_le _⟩ dX6_tick_225 (fun r w1 H locs hw hP hD hS => ?_)
          obtain ⟨rfl, hw⟩ := hw
          subst hw
          have hP : va_P D vwCl [oM m0 m1 m2 m3 m4 m5 m6 g1_1, aI cI m1 89 (upd (upd g183_11 ((19 + 7 * a183) + 1) x201_12) ((19 + 7 * a183) + 2) x216_13)] H := hP
          have hD : va_D A [oM m0 m1 m2 m3 m4 m5 m6 g1_1, aI cI m1 89 (upd (upd g183_11 ((19 + 7 * a183) + 1) x201_12) ((19 + 7 * a183) + 2) x216_13)] := hD
          refine lv_aload_n hx hb dX6_tick_228 rfl (lv_at hl 1 rfl) ?_
          refine ag_getX6 (v := .ref m1) hx hb hG hown hK hP 0 0 rfl (by decide) k_536 rfl dX6_tick_229 ?_
          refine lv_iload_n hx hb dX6_tick_232 rfl (lv_at hl 0 rfl) ?_
          refine lv_iconst (v := 3) hx hb dX6_tick_233 (by decide) ?_
          refine lv_iadd hx hb dX6_tick_234 ?_
          refine ag_ild (k := (19 + 7 * a183) + 3) (v := g183_11 ((19 + 7 * a183) + 3)) hx hb hK hP 1 rfl (nI_add _ 3) (by have := ha183; omega) (Nat.le_of_ble_eq_true rfl) (Eq.trans (pk_un (by omega)) (Eq.trans (pk_un (by omega)) rfl)) dX6_tick_235 ?_
          have J254 : ∀ (H : Heap) (locs : List Loc), va_P D vwCl [oM m0 m1 m2 m3 m4 m5 m6 g1_1, aI cI m1 89 (upd (upd g183_11 ((19 + 7 * a183) + 1) x201_12) ((19 + 7 * a183) + 2) x216_13)] H → va_D A [oM m0 m1 m2 m3 m4 m5 m6 g1_1, aI cI m1 89 (upd (upd g183_11 ((19 + 7 * a183) + 1) x201_12) ((19 + 7 * a183) + 2) x216_13)] → va_S A s.heap H locs → ∀ (ls : Array Slot), lv_has ls 3 [(0, .ref m0), (1, .int ((ms 0) / 144)), (2, .int (nI (19 + 7 * a183)))] → W p l e (ag_rm 5 105) s m ([.ref m0] : List Value).toArray below meth c H locs 0 0 (MQ below (va_Qv (po_X6_tick cI cC cL m0 m1 m2 m3 m4 m5 m6 mf ms hq) (ag_Out D [oM m0 m1 m2 m3 m4 m5 m6 mf, aI cI m1 89 ms]) A) ([.ref m0] : List Value).toArray s 0 0 A) (F0 m 254 ls [.int (j254_0_X6_tick mf ms), .int ((nI (19 + 7 * a183)) + 3), .ref m1]) := by
            intro H locs hP hD hS ls hl
            refine ag_topn (v := xv254_14_X6_tick mf ms) rfl (fun x254_14 ex254_14 => ?_)
            refine ag_ist (k := (19 + 7 * a183) + 3) hx hb hK hP hD hS 1 rfl (nI_add _ 3) (by have := ha183; omega) (Nat.le_of_ble_eq_true rfl) dX6_tick_254 (fun H locs hP hD hS => ?_)
            have hP : va_P D vwCl [oM m0 m1 m2 m3 m4 m5 m6 g1_1, aI cI m1 89 (upd (upd (upd g183_11 ((19 + 7 * a183) + 1) x201_12) ((19 + 7 * a183) + 2) x216_13) ((19 + 7 * a183) + 3) x254_14)] H := hP
            have hD : va_D A [oM m0 m1 m2 m3 m4 m5 m6 g1_1, aI cI m1 89 (upd (upd (upd g183_11 ((19 + 7 * a183) + 1) x201_12) ((19 + 7 * a183) + 2) x216_13) ((19 + 7 * a183) + 3) x254_14)] := hD
            refine lv_aload_n hx hb dX6_tick_255 rfl (lv_at hl 0 rfl) ?_
            refine ag_getX6 (v := .ref m1) hx hb hG hown hK hP 0 0 rfl (by decide) k_536 rfl dX6_tick_256 ?_
            refine lv_iload_n hx hb dX6_tick_259 rfl (lv_at hl 2 rfl) ?_
            refine lv_iconst (v := 4) hx hb dX6_tick_260 (by decide) ?_
            refine lv_iadd hx hb dX6_tick_261 ?_
            refine lv_aload_n hx hb dX6_tick_262 rfl (lv_at hl 0 rfl) ?_
            refine ag_callVi (As := []) (rest := [.int ((nI (19 + 7 * a183)) + 4), .ref m1]) hx hb hml hown hG hK hN hA hP hD hS hl (ct_X6_level l D cI cC cL m0 m1 m2 m3 m4 m5 m6 g1_1 (upd (upd (upd g183_11 ((19 + 7 * a183) + 1) x201_12) ((19 + 7 * a183) + 2) x216_13) ((19 + 7 * a183) + 3) x254_14)) fX6_level k_661 ag_cut_all (q0 := 0) rfl rfl rfl rfl (Nat.le_of_ble_eq_true rfl) ⟨Nat.le_of_ble_eq_true rfl, Nat.le_of_ble_eq_true rfl⟩ ⟨Nat.zero_le _, Nat.zero_le _⟩ dX6_tick_263 (fun r w1 H locs hw hP hD hS => ?_)
            obtain ⟨rfl, hw⟩ := hw
            subst hw
            have hP : va_P D vwCl [oM m0 m1 m2 m3 m4 m5 m6 g1_1, aI cI m1 89 (upd (upd (upd g183_11 ((19 + 7 * a183) + 1) x201_12) ((19 + 7 * a183) + 2) x216_13) ((19 + 7 * a183) + 3) x254_14)] H := hP
            have hD : va_D A [oM m0 m1 m2 m3 m4 m5 m6 g1_1, aI cI m1 89 (upd (upd (upd g183_11 ((19 + 7 * a183) + 1) x201_12) ((19 + 7 * a183) + 2) x216_13) ((19 + 7 * a183) + 3) x254_14)] := hD
            refine lv_aload_n hx hb dX6_tick_266 rfl (lv_at hl 0 rfl) ?_
            refine ag_getX6 (v := .ref m1) hx hb hG hown hK hP 0 0 rfl (by decide) k_536 rfl dX6_tick_267 ?_
            refine lv_iload_n hx hb dX6_tick_270 rfl (lv_at hl 2 rfl) ?_
            refine lv_iconst (v := 4) hx hb dX6_tick_271 (by decide) ?_
            refine lv_iadd hx hb dX6_tick_272 ?_
            refine ag_ild (k := (19 + 7 * a183) + 4) (v := g183_11 ((19 + 7 * a183) + 4)) hx hb hK hP 1 rfl (nI_add _ 4) (by have := ha183; omega) (Nat.le_of_ble_eq_true rfl) (Eq.trans (pk_un (by omega)) (Eq.trans (pk_un (by omega)) (Eq.trans (pk_un (by omega)) rfl))) dX6_tick_273 ?_
            have J292 : ∀ (H : Heap) (locs : List Loc), va_P D vwCl [oM m0 m1 m2 m3 m4 m5 m6 g1_1, aI cI m1 89 (upd (upd (upd g183_11 ((19 + 7 * a183) + 1) x201_12) ((19 + 7 * a183) + 2) x216_13) ((19 + 7 * a183) + 3) x254_14)] H → va_D A [oM m0 m1 m2 m3 m4 m5 m6 g1_1, aI cI m1 89 (upd (upd (upd g183_11 ((19 + 7 * a183) + 1) x201_12) ((19 + 7 * a183) + 2) x216_13) ((19 + 7 * a183) + 3) x254_14)] → va_S A s.heap H locs → ∀ (ls : Array Slot), lv_has ls 3 [(0, .ref m0), (1, .int ((ms 0) / 144)), (2, .int (nI (19 + 7 * a183)))] → W p l e (ag_rm 5 105) s m ([.ref m0] : List Value).toArray below meth c H locs 0 0 (MQ below (va_Qv (po_X6_tick cI cC cL m0 m1 m2 m3 m4 m5 m6 mf ms hq) (ag_Out D [oM m0 m1 m2 m3 m4 m5 m6 mf, aI cI m1 89 ms]) A) ([.ref m0] : List Value).toArray s 0 0 A) (F0 m 292 ls [.int (j292_0_X6_tick mf ms), .int ((nI (19 + 7 * a183)) + 4), .ref m1]) := by
              intro H locs hP hD hS ls hl
              refine ag_topn (v := xv292_15_X6_tick mf ms) rfl (fun x292_15 ex292_15 => ?_)
              refine ag_ist (k := (19 + 7 * a183) + 4) hx hb hK hP hD hS 1 rfl (nI_add _ 4) (by have := ha183; omega) (Nat.le_of_ble_eq_true rfl) dX6_tick_292 (fun H locs hP hD hS => ?_)
              have hP : va_P D vwCl [oM m0 m1 m2 m3 m4 m5 m6 g1_1, aI cI m1 89 (upd (upd (upd (upd g183_11 ((19 + 7 * a183) + 1) x201_12) ((19 + 7 * a183) + 2) x216_13) ((19 + 7 * a183) + 3) x254_14) ((19 + 7 * a183) + 4) x292_15)] H := hP
              have hD : va_D A [oM m0 m1 m2 m3 m4 m5 m6 g1_1, aI cI m1 89 (upd (upd (upd (upd g183_11 ((19 + 7 * a183) + 1) x201_12) ((19 + 7 * a183) + 2) x216_13) ((19 + 7 * a183) + 3) x254_14) ((19 + 7 * a183) + 4) x292_15)] := hD
              refine lv_aload_n hx hb dX6_tick_293 rfl (lv_at hl 0 rfl) ?_
              refine ag_getX6 (v := .ref m1) hx hb hG hown hK hP 0 0 rfl (by decide) k_536 rfl dX6_tick_294 ?_
              refine lv_iload_n hx hb dX6_tick_297 rfl (lv_at hl 2 rfl) ?_
              refine lv_iconst (v := 5) hx hb dX6_tick_298 (by decide) ?_
              refine lv_iadd hx hb dX6_tick_299 ?_
              refine lv_dup2_11 hx hb dX6_tick_300 rfl rfl ?_
              refine ag_ild (k := (19 + 7 * a183) + 5) (v := g183_11 ((19 + 7 * a183) + 5)) hx hb hK hP 1 rfl (nI_add _ 5) (by have := ha183; omega) (Nat.le_of_ble_eq_true rfl) (Eq.trans (pk_un (by omega)) (Eq.trans (pk_un (by omega)) (Eq.trans (pk_un (by omega)) (Eq.trans (pk_un (by omega)) rfl)))) dX6_tick_301 ?_
              refine lv_aload_n hx hb dX6_tick_302 rfl (lv_at hl 0 rfl) ?_
              refine ag_getX6 (v := .int (g1_1 6)) hx hb hG hown hK hP 0 11 rfl (by decide) k_547 rfl dX6_tick_303 ?_
              have J317 : ∀ (ls : Array Slot), lv_has ls 3 [(0, .ref m0), (1, .int ((ms 0) / 144)), (2, .int (nI (19 + 7 * a183)))] → W p l e (ag_rm 5 105) s m ([.ref m0] : List Value).toArray below meth c H locs 0 0 (MQ below (va_Qv (po_X6_tick cI cC cL m0 m1 m2 m3 m4 m5 m6 mf ms hq) (ag_Out D [oM m0 m1 m2 m3 m4 m5 m6 mf, aI cI m1 89 ms]) A) ([.ref m0] : List Value).toArray s 0 0 A) (F0 m 317 ls [.int (j317_0_X6_tick mf ms), .int (g183_11 ((19 + 7 * a183) + 5)), .int ((nI (19 + 7 * a183)) + 5), .ref m1]) := by
                intro ls hl
                refine lv_iadd hx hb dX6_tick_317 ?_
                refine ag_topn (v := xv318_16_X6_tick mf ms) (by rw [← eg183_11, ← ea183]; rfl) (fun x318_16 ex318_16 => ?_)
                refine ag_ist (k := (19 + 7 * a183) + 5) hx hb hK hP hD hS 1 rfl (nI_add _ 5) (by have := ha183; omega) (Nat.le_of_ble_eq_true rfl) dX6_tick_318 (fun H locs hP hD hS => ?_)
                have hP : va_P D vwCl [oM m0 m1 m2 m3 m4 m5 m6 g1_1, aI cI m1 89 (upd (upd (upd (upd (upd g183_11 ((19 + 7 * a183) + 1) x201_12) ((19 + 7 * a183) + 2) x216_13) ((19 + 7 * a183) + 3) x254_14) ((19 + 7 * a183) + 4) x292_15) ((19 + 7 * a183) + 5) x318_16)] H := hP
                have hD : va_D A [oM m0 m1 m2 m3 m4 m5 m6 g1_1, aI cI m1 89 (upd (upd (upd (upd (upd g183_11 ((19 + 7 * a183) + 1) x201_12) ((19 + 7 * a183) + 2) x216_13) ((19 + 7 * a183) + 3) x254_14) ((19 + 7 * a183) + 4) x292_15) ((19 + 7 * a183) + 5) x318_16)] := hD
                refine lv_aload_n hx hb dX6_tick_319 rfl (lv_at hl 0 rfl) ?_
                refine ag_getX6 (v := .ref m1) hx hb hG hown hK hP 0 0 rfl (by decide) k_536 rfl dX6_tick_320 ?_
                refine lv_iload_n hx hb dX6_tick_323 rfl (lv_at hl 2 rfl) ?_
                refine lv_bipush (v := 6) hx hb dX6_tick_324 (by decide) ?_
                refine lv_iadd hx hb dX6_tick_326 ?_
                refine lv_dup2_11 hx hb dX6_tick_327 rfl rfl ?_
                refine ag_ild (k := (19 + 7 * a183) + 6) (v := g183_11 ((19 + 7 * a183) + 6)) hx hb hK hP 1 rfl (nI_add _ 6) (by have := ha183; omega) (Nat.le_of_ble_eq_true rfl) (Eq.trans (pk_un (by omega)) (Eq.trans (pk_un (by omega)) (Eq.trans (pk_un (by omega)) (Eq.trans (pk_un (by omega)) (Eq.trans (pk_un (by omega)) rfl))))) dX6_tick_328 ?_
                refine lv_aload_n hx hb dX6_tick_329 rfl (lv_at hl 0 rfl) ?_
                refine ag_getX6 (v := .int (g1_1 6)) hx hb hG hown hK hP 0 11 rfl (by decide) k_547 rfl dX6_tick_330 ?_
                have J345 : ∀ (ls : Array Slot), lv_has ls 3 [(0, .ref m0), (1, .int ((ms 0) / 144)), (2, .int (nI (19 + 7 * a183)))] → W p l e (ag_rm 5 105) s m ([.ref m0] : List Value).toArray below meth c H locs 0 0 (MQ below (va_Qv (po_X6_tick cI cC cL m0 m1 m2 m3 m4 m5 m6 mf ms hq) (ag_Out D [oM m0 m1 m2 m3 m4 m5 m6 mf, aI cI m1 89 ms]) A) ([.ref m0] : List Value).toArray s 0 0 A) (F0 m 345 ls [.int (j345_0_X6_tick mf ms), .int (g183_11 ((19 + 7 * a183) + 6)), .int ((nI (19 + 7 * a183)) + 6), .ref m1]) := by
                  intro ls hl
                  refine lv_iadd hx hb dX6_tick_345 ?_
                  refine ag_topn (v := xv346_17_X6_tick mf ms) (by rw [← eg183_11, ← ea183]; rfl) (fun x346_17 ex346_17 => ?_)
                  refine ag_ist (k := (19 + 7 * a183) + 6) hx hb hK hP hD hS 1 rfl (nI_add _ 6) (by have := ha183; omega) (Nat.le_of_ble_eq_true rfl) dX6_tick_346 (fun H locs hP hD hS => ?_)
                  have hP : va_P D vwCl [oM m0 m1 m2 m3 m4 m5 m6 g1_1, aI cI m1 89 (upd (upd (upd (upd (upd (upd g183_11 ((19 + 7 * a183) + 1) x201_12) ((19 + 7 * a183) + 2) x216_13) ((19 + 7 * a183) + 3) x254_14) ((19 + 7 * a183) + 4) x292_15) ((19 + 7 * a183) + 5) x318_16) ((19 + 7 * a183) + 6) x346_17)] H := hP
                  have hD : va_D A [oM m0 m1 m2 m3 m4 m5 m6 g1_1, aI cI m1 89 (upd (upd (upd (upd (upd (upd g183_11 ((19 + 7 * a183) + 1) x201_12) ((19 + 7 * a183) + 2) x216_13) ((19 + 7 * a183) + 3) x254_14) ((19 + 7 * a183) + 4) x292_15) ((19 + 7 * a183) + 5) x318_16) ((19 + 7 * a183) + 6) x346_17)] := hD
                  revert hP; revert hD; revert hS; revert hl
                  subst ex346_17
                  subst ex318_16
                  subst ex292_15
                  subst ex254_14
                  subst ex216_13
                  subst ex201_12
                  subst ea183
                  subst eg183_11
                  subst ex180_10
                  subst ex154_9
                  subst ex129_8
                  subst ex103_7
                  subst ex78_6
                  subst ex64_5
                  subst ex50_4
                  subst ex40_3
                  subst ex27_2
                  subst eg1_1
                  intro hl hS hD hP
                  exact ag_vret [m0, m1] hx hb hr hlocks hP hS rfl rfl (by show _ = _; rw [show sw0_X6_tick mf ms = (gv1_1_X6_tick mf ms) from rfl, show sw1_X6_tick mf ms = upd (upd (upd (upd (upd (upd (gv183_11_X6_tick mf ms) ((19 + 7 * (kv183_X6_tick mf ms)) + 1) (xv201_12_X6_tick mf ms)) ((19 + 7 * (kv183_X6_tick mf ms)) + 2) (xv216_13_X6_tick mf ms)) ((19 + 7 * (kv183_X6_tick mf ms)) + 3) (xv254_14_X6_tick mf ms)) ((19 + 7 * (kv183_X6_tick mf ms)) + 4) (xv292_15_X6_tick mf ms)) ((19 + 7 * (kv183_X6_tick mf ms)) + 5) (xv318_16_X6_tick mf ms)) ((19 + 7 * (kv183_X6_tick mf ms)) + 6) (xv346_17_X6_tick mf ms) from rfl]) dX6_tick_347
                refine lv_if_ge (tgt := 344) hx hb dX6_tick_333 (by decide) (fun c_333 => ?_) (fun c_333 => ?_)
                · refine lv_iconst (v := 0) hx hb dX6_tick_344 (by decide) ?_
                  revert hP; revert hD; revert hS; revert hl
                  subst ex318_16
                  subst ex292_15
                  subst ex254_14
                  subst ex216_13
                  subst ex201_12
                  subst ea183
                  subst eg183_11
                  subst ex180_10
                  subst ex154_9
                  subst ex129_8
                  subst ex103_7
                  subst ex78_6
                  subst ex64_5
                  subst ex50_4
                  subst ex40_3
                  subst ex27_2
                  subst eg1_1
                  intro hl hS hD hP
                  simp only [j345_0_X6_tick, if_pos c_333] at J345
                  exact J345 _ (lv_sub hl [0, 1, 2] rfl)
                · refine lv_aload_n hx hb dX6_tick_336 rfl (lv_at hl 0 rfl) ?_
                  refine ag_getX6 (v := .int (g1_1 6)) hx hb hG hown hK hP 0 11 rfl (by decide) k_547 rfl dX6_tick_337 ?_
                  refine lv_ineg hx hb dX6_tick_340 ?_
                  refine lv_goto (tgt := 345) hx hb dX6_tick_341 (by decide) ?_
                  revert hP; revert hD; revert hS; revert hl
                  subst ex318_16
                  subst ex292_15
                  subst ex254_14
                  subst ex216_13
                  subst ex201_12
                  subst ea183
                  subst eg183_11
                  subst ex180_10
                  subst ex154_9
                  subst ex129_8
                  subst ex103_7
                  subst ex78_6
                  subst ex64_5
                  subst ex50_4
                  subst ex40_3
                  subst ex27_2
                  subst eg1_1
                  intro hl hS hD hP
                  simp only [j345_0_X6_tick, if_neg c_333] at J345
                  exact J345 _ (lv_sub hl [0, 1, 2] rfl)
              refine lv_if_le (tgt := 316) hx hb dX6_tick_306 (by decide) (fun c_306 => ?_) (fun c_306 => ?_)
              · refine lv_iconst (v := 0) hx hb dX6_tick_316 (by decide) ?_
                revert hP; revert hD; revert hS; revert hl
                subst ex292_15
                subst ex254_14
                subst ex216_13
                subst ex201_12
                subst ea183
                subst eg183_11
                subst ex180_10
                subst ex154_9
                subst ex129_8
                subst ex103_7
                subst ex78_6
                subst ex64_5
                subst ex50_4
                subst ex40_3
                subst ex27_2
                subst eg1_1
                intro hl hS hD hP
                simp only [j317_0_X6_tick, if_pos c_306] at J317
                exact J317 _ (lv_sub hl [0, 1, 2] rfl)
              · refine lv_aload_n hx hb dX6_tick_309 rfl (lv_at hl 0 rfl) ?_
                refine ag_getX6 (v := .int (g1_1 6)) hx hb hG hown hK hP 0 11 rfl (by decide) k_547 rfl dX6_tick_310 ?_
                refine lv_goto (tgt := 317) hx hb dX6_tick_313 (by decide) ?_
                revert hP; revert hD; revert hS; revert hl
                subst ex292_15
                subst ex254_14
                subst ex216_13
                subst ex201_12
                subst ea183
                subst eg183_11
                subst ex180_10
                subst ex154_9
                subst ex129_8
                subst ex103_7
                subst ex78_6
                subst ex64_5
                subst ex50_4
                subst ex40_3
                subst ex27_2
                subst eg1_1
                intro hl hS hD hP
                simp only [j317_0_X6_tick, if_neg c_306] at J317
                exact J317 _ (lv_sub hl [0, 1, 2] rfl)
            refine lv_icmp_ge (tgt := 284) hx hb dX6_tick_274 (by decide) (fun c_274 => ?_) (fun c_274 => ?_)
            · refine lv_aload_n hx hb dX6_tick_284 rfl (lv_at hl 0 rfl) ?_
              refine ag_getX6 (v := .ref m1) hx hb hG hown hK hP 0 0 rfl (by decide) k_536 rfl dX6_tick_285 ?_
              refine lv_iload_n hx hb dX6_tick_288 rfl (lv_at hl 2 rfl) ?_
              refine lv_iconst (v := 4) hx hb dX6_tick_289 (by decide) ?_
              refine lv_iadd hx hb dX6_tick_290 ?_
              refine ag_ild (k := (19 + 7 * a183) + 4) (v := g183_11 ((19 + 7 * a183) + 4)) hx hb hK hP 1 rfl (nI_add _ 4) (by have := ha183; omega) (Nat.le_of_ble_eq_true rfl) (Eq.trans (pk_un (by omega)) (Eq.trans (pk_un (by omega)) (Eq.trans (pk_un (by omega)) rfl))) dX6_tick_291 ?_
              revert hP; revert hD; revert hS; revert hl
              subst ex254_14
              subst ex216_13
              subst ex201_12
              subst ea183
              subst eg183_11
              subst ex180_10
              subst ex154_9
              subst ex129_8
              subst ex103_7
              subst ex78_6
              subst ex64_5
              subst ex50_4
              subst ex40_3
              subst ex27_2
              subst eg1_1
              intro hl hS hD hP
              simp only [j292_0_X6_tick, if_pos c_274] at J292
              exact J292 H locs hP hD hS _ (lv_sub hl [0, 1, 2] rfl)
            · refine lv_aload_n hx hb dX6_tick_277 rfl (lv_at hl 0 rfl) ?_
              refine ag_callVi (As := []) (rest := [.int ((nI (19 + 7 * a183)) + 4), .ref m1]) hx hb hml hown hG hK hN hA hP hD hS hl (ct_X6_level l D cI cC cL m0 m1 m2 m3 m4 m5 m6 g1_1 (upd (upd (upd g183_11 ((19 + 7 * a183) + 1) x201_12) ((19 + 7 * a183) + 2) x216_13) ((19 + 7 * a183) + 3) x254_14)) fX6_level k_661 ag_cut_all (q0 := 0) rfl rfl rfl rfl (Nat.le_of_ble_eq_true rfl) ⟨Nat.le_of_ble_eq_true rfl, Nat.le_of_ble_eq_true rfl⟩ ⟨Nat.zero_le _, Nat.zero_le _⟩ dX6_tick_278 (fun r w1 H locs hw hP hD hS => ?_)
              obtain ⟨rfl, hw⟩ := hw
              subst hw
              have hP : va_P D vwCl [oM m0 m1 m2 m3 m4 m5 m6 g1_1, aI cI m1 89 (upd (upd (upd g183_11 ((19 + 7 * a183) + 1) x201_12) ((19 + 7 * a183) + 2) x216_13) ((19 + 7 * a183) + 3) x254_14)] H := hP
              have hD : va_D A [oM m0 m1 m2 m3 m4 m5 m6 g1_1, aI cI m1 89 (upd (upd (upd g183_11 ((19 + 7 * a183) + 1) x201_12) ((19 + 7 * a183) + 2) x216_13) ((19 + 7 * a183) + 3) x254_14)] := hD
              refine lv_goto (tgt := 292) hx hb dX6_tick_281 (by decide) ?_
              revert hP; revert hD; revert hS; revert hl
              subst ex254_14
              subst ex216_13
              subst ex201_12
              subst ea183
              subst eg183_11
              subst ex180_10
              subst ex154_9
              subst ex129_8
              subst ex103_7
              subst ex78_6
              subst ex64_5
              subst ex50_4
              subst ex40_3
              subst ex27_2
              subst eg1_1
              intro hl hS hD hP
              simp only [j292_0_X6_tick, if_neg c_274] at J292
              exact J292 H locs hP hD hS _ (lv_sub hl [0, 1, 2] rfl)
          refine lv_icmp_le (tgt := 246) hx hb dX6_tick_236 (by decide) (fun c_236 => ?_) (fun c_236 => ?_)
          · refine lv_aload_n hx hb dX6_tick_246 rfl (lv_at hl 1 rfl) ?_
            refine ag_getX6 (v := .ref m1) hx hb hG hown hK hP 0 0 rfl (by decide) k_536 rfl dX6_tick_247 ?_
            refine lv_iload_n hx hb dX6_tick_250 rfl (lv_at hl 0 rfl) ?_
            refine lv_iconst (v := 3) hx hb dX6_tick_251 (by decide) ?_
            refine lv_iadd hx hb dX6_tick_252 ?_
            refine ag_ild (k := (19 + 7 * a183) + 3) (v := g183_11 ((19 + 7 * a183) + 3)) hx hb hK hP 1 rfl (nI_add _ 3) (by have := ha183; omega) (Nat.le_of_ble_eq_true rfl) (Eq.trans (pk_un (by omega)) (Eq.trans (pk_un (by omega)) rfl)) dX6_tick_253 ?_
            revert hP; revert hD; revert hS; revert hl
            subst ex216_13
            subst ex201_12
            subst ea183
            subst eg183_11
            subst ex180_10
            subst ex154_9
            subst ex129_8
            subst ex103_7
            subst ex78_6
            subst ex64_5
            subst ex50_4
            subst ex40_3
            subst ex27_2
            subst eg1_1
            intro hl hS hD hP
            simp only [j254_0_X6_tick, if_pos c_236] at J254
            exact J254 H locs hP hD hS _ (lv_sub hl [1, 2, 0] rfl)
          · refine lv_aload_n hx hb dX6_tick_239 rfl (lv_at hl 1 rfl) ?_
            refine ag_callVi (As := []) (rest := [.int ((nI (19 + 7 * a183)) + 3), .ref m1]) hx hb hml hown hG hK hN hA hP hD hS hl (ct_X6_level l D cI cC cL m0 m1 m2 m3 m4 m5 m6 g1_1 (upd (upd g183_11 ((19 + 7 * a183) + 1) x201_12) ((19 + 7 * a183) + 2) x216_13)) fX6_level k_661 ag_cut_all (q0 := 0) rfl rfl rfl rfl (Nat.le_of_ble_eq_true rfl) ⟨Nat.le_of_ble_eq_true rfl, Nat.le_of_ble_eq_true rfl⟩ ⟨Nat.zero_le _, Nat.zero_le _⟩ dX6_tick_240 (fun r w1 H locs hw hP hD hS => ?_)
            obtain ⟨rfl, hw⟩ := hw
            subst hw
            have hP : va_P D vwCl [oM m0 m1 m2 m3 m4 m5 m6 g1_1, aI cI m1 89 (upd (upd g183_11 ((19 + 7 * a183) + 1) x201_12) ((19 + 7 * a183) + 2) x216_13)] H := hP
            have hD : va_D A [oM m0 m1 m2 m3 m4 m5 m6 g1_1, aI cI m1 89 (upd (upd g183_11 ((19 + 7 * a183) + 1) x201_12) ((19 + 7 * a183) + 2) x216_13)] := hD
            refine lv_goto (tgt := 254) hx hb dX6_tick_243 (by decide) ?_
            revert hP; revert hD; revert hS; revert hl
            subst ex216_13
            subst ex201_12
            subst ea183
            subst eg183_11
            subst ex180_10
            subst ex154_9
            subst ex129_8
            subst ex103_7
            subst ex78_6
            subst ex64_5
            subst ex50_4
            subst ex40_3
            subst ex27_2
            subst eg1_1
            intro hl hS hD hP
            simp only [j254_0_X6_tick, if_neg c_236] at J254
            exact J254 H locs hP hD hS _ (lv_sub hl [1, 2, 0] rfl)
        refine lv_if_ge (tgt := 178) hx hb dX6_tick_167 (by decide) (fun c_167 => ?_) (fun c_167 => ?_)
        · refine lv_iconst (v := 0) hx hb dX6_tick_178 (by decide) ?_
          revert hP; revert hD; revert hS; revert hl
          subst ex154_9
          subst ex129_8
          subst ex103_7
          subst ex78_6
          subst ex64_5
          subst ex50_4
          subst ex40_3
          subst ex27_2
          subst eg1_1
          intro hl hS hD hP
          simp only [j179_0_X6_tick, if_pos c_167] at J179
          exact J179 _ (lv_sub hl [0, 1] rfl)
        · refine lv_aload_n hx hb dX6_tick_170 rfl (lv_at hl 0 rfl) ?_
          refine ag_getX6 (v := .int (g1_1 9)) hx hb hG hown hK hP 0 14 rfl (by decide) k_550 rfl dX6_tick_171 ?_
          refine lv_ineg hx hb dX6_tick_174 ?_
          refine lv_goto (tgt := 179) hx hb dX6_tick_175 (by decide) ?_
          revert hP; revert hD; revert hS; revert hl
          subst ex154_9
          subst ex129_8
          subst ex103_7
          subst ex78_6
          subst ex64_5
          subst ex50_4
          subst ex40_3
          subst ex27_2
          subst eg1_1
          intro hl hS hD hP
          simp only [j179_0_X6_tick, if_neg c_167] at J179
          exact J179 _ (lv_sub hl [0, 1] rfl)
      refine lv_if_le (tgt := 152) hx hb dX6_tick_142 (by decide) (fun c_142 => ?_) (fun c_142 => ?_)
      · refine lv_iconst (v := 0) hx hb dX6_tick_152 (by decide) ?_
        revert hP; revert hD; revert hS; revert hl
        subst ex129_8
        subst ex103_7
        subst ex78_6
        subst ex64_5
        subst ex50_4
        subst ex40_3
        subst ex27_2
        subst eg1_1
        intro hl hS hD hP
        simp only [j153_0_X6_tick, if_pos c_142] at J153
        exact J153 _ (lv_sub hl [0, 1] rfl)
      · refine lv_aload_n hx hb dX6_tick_145 rfl (lv_at hl 0 rfl) ?_
        refine ag_getX6 (v := .int (g1_1 9)) hx hb hG hown hK hP 0 14 rfl (by decide) k_550 rfl dX6_tick_146 ?_
        refine lv_goto (tgt := 153) hx hb dX6_tick_149 (by decide) ?_
        revert hP; revert hD; revert hS; revert hl
        subst ex129_8
        subst ex103_7
        subst ex78_6
        subst ex64_5
        subst ex50_4
        subst ex40_3
        subst ex27_2
        subst eg1_1
        intro hl hS hD hP
        simp only [j153_0_X6_tick, if_neg c_142] at J153
        exact J153 _ (lv_sub hl [0, 1] rfl)
    refine lv_if_ge (tgt := 127) hx hb dX6_tick_116 (by decide) (fun c_116 => ?_) (fun c_116 => ?_)
    · refine lv_iconst (v := 0) hx hb dX6_tick_127 (by decide) ?_
      revert hP; revert hD; revert hS; revert hl
      subst ex103_7
      subst ex78_6
      subst ex64_5
      subst ex50_4
      subst ex40_3
      subst ex27_2
      subst eg1_1
      intro hl hS hD hP
      simp only [j128_0_X6_tick, if_pos c_116] at J128
      exact J128 _ (lv_sub hl [0, 1] rfl)
    · refine lv_aload_n hx hb dX6_tick_119 rfl (lv_at hl 0 rfl) ?_
      refine ag_getX6 (v := .int (g1_1 6)) hx hb hG hown hK hP 0 11 rfl (by decide) k_547 rfl dX6_tick_120 ?_
      refine lv_ineg hx hb dX6_tick_123 ?_
      refine lv_goto (tgt := 128) hx hb dX6_tick_124 (by decide) ?_
      revert hP; revert hD; revert hS; revert hl
      subst ex103_7
      subst ex78_6
      subst ex64_5
      subst ex50_4
      subst ex40_3
      subst ex27_2
      subst eg1_1
      intro hl hS hD hP
      simp only [j128_0_X6_tick, if_neg c_116] at J128
      exact J128 _ (lv_sub hl [0, 1] rfl)
  refine lv_if_le (tgt := 101) hx hb dX6_tick_91 (by decide) (fun c_91 => ?_) (fun c_91 => ?_)
  · refine lv_iconst (v := 0) hx hb dX6_tick_101 (by decide) ?_
    revert hP; revert hD; revert hS; revert hl
    subst ex78_6
    subst ex64_5
    subst ex50_4
    subst ex40_3
    subst ex27_2
    subst eg1_1
    intro hl hS hD hP
    simp only [j102_0_X6_tick, if_pos c_91] at J102
    exact J102 _ (lv_sub hl [1, 0] rfl)
  · refine lv_aload_n hx hb dX6_tick_94 rfl (lv_at hl 1 rfl) ?_
    refine ag_getX6 (v := .int (g1_1 6)) hx hb hG hown hK hP 0 11 rfl (by decide) k_547 rfl dX6_tick_95 ?_
    refine lv_goto (tgt := 102) hx hb dX6_tick_98 (by decide) ?_
    revert hP; revert hD; revert hS; revert hl
    subst ex78_6
    subst ex64_5
    subst ex50_4
    subst ex40_3
    subst ex27_2
    subst eg1_1
    intro hl hS hD hP
    simp only [j102_0_X6_tick, if_neg c_91] at J102
    exact J102 _ (lv_sub hl [1, 0] rfl)
