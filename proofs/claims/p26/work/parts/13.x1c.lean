/-! ticks -/
abbrev ltu : Type := (Nat → Int32) × (Nat → Int32) × (Nat → Int32) × (Nat → Int32)
/-- what a tick foresees; a tick; some ticks: the numbers of the lagoon, its sums, its records, the tick -/
def lpK (se : Nat → Int32) (x : ltu) : Nat → Int32 := sw0_X4_foresee x.2.2.2 x.1 se (sr_X1_head x.1)
def lpS (se : Nat → Int32) (x : ltu) : ltu :=
  (upd (sw0_X1_take x.1 (lpK se x)) 0 (sw0_X1_take x.1 (lpK se x) 0 + 1), sw2_X1_take x.2.1 (lpK se x), sw3_X1_enterRecord (sw0_X1_take x.1 (lpK se x)) x.2.2.1 (lpK se x), lpK se x)
def lp (se : Nat → Int32) : Nat → ltu → ltu
  | 0, x => x
  | n + 1, x => lp se n (lpS se x)
theorem ag_pos {x : Int32} (h : ¬ x < 1) : x = nI x.toNatClampNeg ∧ x.toNatClampNeg < 2 ^ 31 := by
  have h0 : ¬ x < 0 := fun h2 => h (by rw [Int32.lt_iff_toInt_lt] at *; have e0 : (0 : Int32).toInt = 0 := rfl; have e1 : (1 : Int32).toInt = 1 := rfl; omega)
  obtain ⟨j, hj, rfl⟩ := nI_of h0
  rw [nI_clamp hj]
  exact ⟨rfl, hj⟩
theorem ag_nn {x : Int32} (h : ¬ x < 0) : x = nI x.toNatClampNeg ∧ x.toNatClampNeg < 2 ^ 31 := by
  obtain ⟨j, hj, rfl⟩ := nI_of h
  rw [nI_clamp hj]
  exact ⟨rfl, hj⟩
theorem ag_ixn {x : Int32} {n : Nat} (hn : n < 2 ^ 31) (h0 : ¬ x < 0) (h1 : ¬ nI n ≤ x) : x = nI x.toNatClampNeg ∧ x.toNatClampNeg < n := by
  obtain ⟨j, hj, rfl⟩ := nI_of h0
  rw [nI_clamp hj]
  exact ⟨rfl, Nat.not_le.mp (fun h => h1 ((nI_leI hn hj).mpr h))⟩

def gv13_1_X1_letPass (se : Nat → Int32) (fi : Nat → Int32) (ki : Nat → Int32) : Nat → Int32 := sw0_X4_foresee ki fi se (sr_X1_head fi)
def gv18_2_X1_letPass (se : Nat → Int32) (fi : Nat → Int32) (ki : Nat → Int32) : Nat → Int32 := sw0_X1_take fi (gv13_1_X1_letPass se fi ki)
def gv18_3_X1_letPass (se : Nat → Int32) (fi : Nat → Int32) (ti : Nat → Int32) (ki : Nat → Int32) : Nat → Int32 := sw2_X1_take ti (gv13_1_X1_letPass se fi ki)
def gv23_4_X1_letPass (se : Nat → Int32) (fi : Nat → Int32) (ri : Nat → Int32) (ki : Nat → Int32) : Nat → Int32 := sw3_X1_enterRecord (gv18_2_X1_letPass se fi ki) ri (gv13_1_X1_letPass se fi ki)
def xv33_5_X1_letPass (se : Nat → Int32) (fi : Nat → Int32) (ki : Nat → Int32) : Int32 := ((gv18_2_X1_letPass se fi ki) 0) + 1
abbrev po_X1_letPass (cI cC cL : ClassId) (h t1 h1 h2 h3 : Nat) (f se to re kf : Nat → Int32) (p1 : Int32) (N : Nat) (hp : p1 = nI N ∧ N < 2 ^ 31) : va_W → Prop := fun w' => [oL h h1 h2 h3 ((lp se N (f, to, re, kf)).1), aI cI h1 3 se, aI cI h2 7 ((lp se N (f, to, re, kf)).2.1), aI cI h3 60 ((lp se N (f, to, re, kf)).2.2.1), oK t1 ((lp se N (f, to, re, kf)).2.2.2)] = w'
set_option maxHeartbeats 4000000 in
set_option maxRecDepth 100000 in
theorem ct_X1_letPass (l : Launch) (D : va_G) (cI cC cL : ClassId) (h t1 h1 h2 h3 : Nat) (f se to re kf : Nat → Int32) (p1 : Int32) (N : Nat) (hp : p1 = nI N ∧ N < 2 ^ 31) : ag_MV l yX1_letPass cX1_letPass 4 3 65 D cI cC cL [.ref h, .int p1, .ref t1] [oL h h1 h2 h3 f, aI cI h1 3 se, aI cI h2 7 to, aI cI h3 60 re, oK t1 kf] (po_X1_letPass cI cC cL h t1 h1 h2 h3 f se to re kf p1 N hp) := by
  refine ag_MV.of (plainFor_of_name (by decide)) (Nat.le_of_ble_eq_true rfl) ?_
  intro p e s m below meth c hx hb hr hlocks hml hown hmn hG hK A hN hA H locs hP hD hS ls hl
  have hl : lv_has ls 4 [(0, .ref h), (1, .int p1), (2, .ref t1)] := hl
  refine lv_iconst (v := 0) hx hb dX1_letPass_0 (by decide) ?_
  refine lv_istore_n (lv' := [(3, .int 0), (0, .ref h), (1, .int p1), (2, .ref t1)]) hx hb dX1_letPass_1 rfl hl (by decide) rfl (fun ls hl => ?_)
  suffices L2 : ∀ (n : Nat) (i : Nat) (fi ti ri ki : Nat → Int32), (hi : i + n = N) → (hR : lp se n (fi, ti, ri, ki) = lp se N (f, to, re, kf)) → ∀ (H : Heap) (locs : List Loc) (ls : Array Slot), lv_has ls 4 [(0, .ref h), (1, .int p1), (2, .ref t1), (3, .int (nI i))] → va_P D vwCl [oL h h1 h2 h3 fi, aI cI h1 3 se, aI cI h2 7 ti, aI cI h3 60 ri, oK t1 ki] H → va_D A [oL h h1 h2 h3 fi, aI cI h1 3 se, aI cI h2 7 ti, aI cI h3 60 ri, oK t1 ki] → va_S A s.heap H locs → W p l e (ag_rm 3 65) s m ([.ref h, .int p1, .ref t1] : List Value).toArray below meth c H locs 0 0 (MQ below (va_Qv (po_X1_letPass cI cC cL h t1 h1 h2 h3 f se to re kf p1 N hp) (ag_Out D [oL h h1 h2 h3 f, aI cI h1 3 se, aI cI h2 7 to, aI cI h3 60 re, oK t1 kf]) A) ([.ref h, .int p1, .ref t1] : List Value).toArray s 0 0 A) (F0 m 2 ls []) from L2 N 0 f to re kf (by omega) rfl H locs ls (lv_sub hl [1, 2, 3, 0] rfl) hP hD hS
  intro n
  induction n with
  | zero =>
    intro i fi ti ri ki hi hR H locs ls hl hP hD hS
    refine lv_iload_n hx hb dX1_letPass_2 rfl (lv_at hl 3 rfl) ?_
    refine lv_iload_n hx hb dX1_letPass_3 rfl (lv_at hl 1 rfl) ?_
    refine lv_icmp_ge (tgt := 42) hx hb dX1_letPass_4 (by decide) (fun _ => ?_) (fun h0 => absurd (by rw [hp.1]; exact nI_le (by omega) (by omega)) h0)
    exact ag_vret [h, h1, h2, h3, t1] hx hb hr hlocks hP hS rfl rfl (by show _ = _; rw [← hR]; rfl) dX1_letPass_42
  | succ n ih =>
    intro i fi ti ri ki hi hR H locs ls hl hP hD hS
    refine lv_iload_n hx hb dX1_letPass_2 rfl (lv_at hl 3 rfl) ?_
    refine lv_iload_n hx hb dX1_letPass_3 rfl (lv_at hl 1 rfl) ?_
    refine lv_icmp_ge (tgt := 42) hx hb dX1_letPass_4 (by decide) (fun h0 => absurd h0 (by rw [hp.1]; exact nI_ge (by omega) hp.2)) (fun _ => ?_)
    refine lv_aload_n hx hb dX1_letPass_7 rfl (lv_at hl 2 rfl) ?_
    refine lv_aload_n hx hb dX1_letPass_8 rfl (lv_at hl 0 rfl) ?_
    refine lv_aload_n hx hb dX1_letPass_9 rfl (lv_at hl 0 rfl) ?_
    refine ag_callVi (As := []) (rest := [.ref h, .ref t1]) hx hb hml hown hG hK hN hA hP hD hS hl (ct_X1_head l D cI cC cL h h1 h2 h3 fi se ti ri) fX1_head k_345 (ag_cut_1 [] [oK t1 ki] rfl) (q0 := 0) rfl rfl rfl rfl (Nat.le_of_ble_eq_true rfl) ⟨Nat.le_of_ble_eq_true rfl, Nat.le_of_ble_eq_true rfl⟩ ⟨Nat.zero_le _, Nat.zero_le _⟩ dX1_letPass_10 (fun r w1 H locs hw hP hD hS => ?_)
    obtain ⟨rfl, hw⟩ := hw
    subst hw
    have hP : va_P D vwCl [oL h h1 h2 h3 fi, aI cI h1 3 se, aI cI h2 7 ti, aI cI h3 60 ri, oK t1 ki] H := hP
    have hD : va_D A [oL h h1 h2 h3 fi, aI cI h1 3 se, aI cI h2 7 ti, aI cI h3 60 ri, oK t1 ki] := hD
    refine ag_callVv (As := [.ref h, .int (sr_X1_head fi)]) (rest := []) hx hb hml hown hG hK hN hA hP hD hS hl (ct_X4_foresee l D cI cC cL t1 h h1 h2 h3 ki fi se ti ri (sr_X1_head fi)) fX4_foresee k_346 (ag_cut_2s 1 [] [oK t1 ki] [] [oL h h1 h2 h3 fi, aI cI h1 3 se, aI cI h2 7 ti, aI cI h3 60 ri] [] rfl rfl rfl) (q0 := 4) rfl rfl rfl rfl (Nat.le_of_ble_eq_true rfl) ⟨Nat.le_of_ble_eq_true rfl, Nat.le_of_ble_eq_true rfl⟩ ⟨Nat.zero_le _, Nat.zero_le _⟩ dX1_letPass_13 (fun w1 H locs hw hP hD hS => ?_)
    have hw : _ = w1 := hw
    generalize eg13_1 : sw0_X4_foresee ki fi se (sr_X1_head fi) = g13_1 at hw
    replace eg13_1 : gv13_1_X1_letPass se fi ki = g13_1 := (by rw [← eg13_1]; rfl)
    subst hw
    have hP : va_P D vwCl [oL h h1 h2 h3 fi, aI cI h1 3 se, aI cI h2 7 ti, aI cI h3 60 ri, oK t1 g13_1] H := hP
    have hD : va_D A [oL h h1 h2 h3 fi, aI cI h1 3 se, aI cI h2 7 ti, aI cI h3 60 ri, oK t1 g13_1] := hD
    refine lv_aload_n hx hb dX1_letPass_16 rfl (lv_at hl 0 rfl) ?_
    refine lv_aload_n hx hb dX1_letPass_17 rfl (lv_at hl 2 rfl) ?_
    refine ag_callVv (As := [.ref t1]) (rest := []) hx hb hml hown hG hK hN hA hP hD hS hl (ct_X1_take l D cI cC cL h t1 h1 h2 h3 fi se ti ri g13_1) fX1_take k_363 ag_cut_all (q0 := 0) rfl rfl rfl rfl (Nat.le_of_ble_eq_true rfl) ⟨Nat.le_of_ble_eq_true rfl, Nat.le_of_ble_eq_true rfl⟩ ⟨Nat.zero_le _, Nat.zero_le _⟩ dX1_letPass_18 (fun w1 H locs hw hP hD hS => ?_)
    have hw : _ = w1 := hw
    generalize eg18_2 : sw0_X1_take fi g13_1 = g18_2 at hw
    replace eg18_2 : gv18_2_X1_letPass se fi ki = g18_2 := (by rw [← eg18_2, ← eg13_1]; rfl)
    generalize eg18_3 : sw2_X1_take ti g13_1 = g18_3 at hw
    replace eg18_3 : gv18_3_X1_letPass se fi ti ki = g18_3 := (by rw [← eg18_3, ← eg13_1]; rfl)
    subst hw
    have hP : va_P D vwCl [oL h h1 h2 h3 g18_2, aI cI h1 3 se, aI cI h2 7 g18_3, aI cI h3 60 ri, oK t1 g13_1] H := hP
    have hD : va_D A [oL h h1 h2 h3 g18_2, aI cI h1 3 se, aI cI h2 7 g18_3, aI cI h3 60 ri, oK t1 g13_1] := hD
    refine lv_aload_n hx hb dX1_letPass_21 rfl (lv_at hl 0 rfl) ?_
    refine lv_aload_n hx hb dX1_letPass_22 rfl (lv_at hl 2 rfl) ?_
    refine ag_callVv (As := [.ref t1]) (rest := []) hx hb hml hown hG hK hN hA hP hD hS hl (ct_X1_enterRecord l D cI cC cL h t1 h1 h2 h3 g18_2 se g18_3 ri g13_1) fX1_enterRecord k_367 ag_cut_all (q0 := 0) rfl rfl rfl rfl (Nat.le_of_ble_eq_true rfl) ⟨Nat.le_of_ble_eq_true rfl, Nat.le_of_ble_eq_true rfl⟩ ⟨Nat.zero_le _, Nat.zero_le _⟩ dX1_letPass_23 (fun w1 H locs hw hP hD hS => ?_)
    have hw : _ = w1 := hw
    generalize eg23_4 : sw3_X1_enterRecord g18_2 ri g13_1 = g23_4 at hw
    replace eg23_4 : gv23_4_X1_letPass se fi ri ki = g23_4 := (by rw [← eg23_4, ← eg13_1, ← eg18_2]; rfl)
    subst hw
    have hP : va_P D vwCl [oL h h1 h2 h3 g18_2, aI cI h1 3 se, aI cI h2 7 g18_3, aI cI h3 60 g23_4, oK t1 g13_1] H := hP
    have hD : va_D A [oL h h1 h2 h3 g18_2, aI cI h1 3 se, aI cI h2 7 g18_3, aI cI h3 60 g23_4, oK t1 g13_1] := hD
    refine lv_aload_n hx hb dX1_letPass_26 rfl (lv_at hl 0 rfl) ?_
    refine lv_dup hx hb dX1_letPass_27 rfl ?_
    refine ag_getX1 (v := .int (g18_2 0)) hx hb hG hown hK hP 0 0 rfl (by decide) k_30 rfl dX1_letPass_28 ?_
    refine lv_iconst (v := 1) hx hb dX1_letPass_31 (by decide) ?_
    refine lv_iadd hx hb dX1_letPass_32 ?_
    refine ag_topn (v := xv33_5_X1_letPass se fi ki) (by rw [← eg18_2]; rfl) (fun x33_5 ex33_5 => ?_)
    refine ag_putX1 hx hb hG hown hK hP hD hS 0 0 rfl (by decide) k_30 (by decide) rfl rfl (Nat.le_of_ble_eq_true rfl) dX1_letPass_33 (fun H locs hP hD hS => ?_)
    have hP : va_P D vwCl [oL h h1 h2 h3 (upd g18_2 0 x33_5), aI cI h1 3 se, aI cI h2 7 g18_3, aI cI h3 60 g23_4, oK t1 g13_1] H := hP
    have hD : va_D A [oL h h1 h2 h3 (upd g18_2 0 x33_5), aI cI h1 3 se, aI cI h2 7 g18_3, aI cI h3 60 g23_4, oK t1 g13_1] := hD
    refine lv_iinc (v := nI (i + 1)) (lv' := [(3, .int (nI (i + 1))), (0, .ref h), (1, .int p1), (2, .ref t1)]) hx hb dX1_letPass_36 hl (k := 3) rfl (nI_1 i) (by decide) rfl (fun ls hl => ?_)
    refine lv_goto (tgt := 2) hx hb dX1_letPass_39 (by decide) ?_
    revert hP; revert hD; revert hS; revert hl
    subst ex33_5
    subst eg23_4
    subst eg18_3
    subst eg18_2
    subst eg13_1
    intro hl hS hD hP
    exact ih (i + 1) (upd (gv18_2_X1_letPass se fi ki) 0 (xv33_5_X1_letPass se fi ki)) (gv18_3_X1_letPass se fi ti ki) (gv23_4_X1_letPass se fi ri ki) (gv13_1_X1_letPass se fi ki) (by omega) hR H locs ls (lv_sub hl [1, 2, 3, 0] rfl) hP hD hS
def gv33_1_X1_runTicks (f : Nat → Int32) (se : Nat → Int32) (to : Nat → Int32) (re : Nat → Int32) (kf : Nat → Int32) (p1 : Int32) : Nat → Int32 := (lp se p1.toNatClampNeg (f, to, re, kf)).1
def gv33_2_X1_runTicks (f : Nat → Int32) (se : Nat → Int32) (to : Nat → Int32) (re : Nat → Int32) (kf : Nat → Int32) (p1 : Int32) : Nat → Int32 := (lp se p1.toNatClampNeg (f, to, re, kf)).2.1
def gv33_3_X1_runTicks (f : Nat → Int32) (se : Nat → Int32) (to : Nat → Int32) (re : Nat → Int32) (kf : Nat → Int32) (p1 : Int32) : Nat → Int32 := (lp se p1.toNatClampNeg (f, to, re, kf)).2.2.1
def gv33_4_X1_runTicks (f : Nat → Int32) (se : Nat → Int32) (to : Nat → Int32) (re : Nat → Int32) (kf : Nat → Int32) (p1 : Int32) : Nat → Int32 := (lp se p1.toNatClampNeg (f, to, re, kf)).2.2.2
def sr_X1_runTicks (f : Nat → Int32) (se : Nat → Int32) (to : Nat → Int32) (re : Nat → Int32) (kf : Nat → Int32) (p1 : Int32) : Int32 := if p1 < 1 then (-1000000001) else if p1 ≤ 300 then if ((f 0) + p1) ≤ 9999 then sr_X1_level (gv33_1_X1_runTicks f se to re kf p1) else (-1000000003) else (-1000000001)
def sw0_X1_runTicks (f : Nat → Int32) (se : Nat → Int32) (to : Nat → Int32) (re : Nat → Int32) (kf : Nat → Int32) (p1 : Int32) : Nat → Int32 := if p1 < 1 then f else if p1 ≤ 300 then if ((f 0) + p1) ≤ 9999 then (gv33_1_X1_runTicks f se to re kf p1) else f else f
def sw2_X1_runTicks (f : Nat → Int32) (se : Nat → Int32) (to : Nat → Int32) (re : Nat → Int32) (kf : Nat → Int32) (p1 : Int32) : Nat → Int32 := if p1 < 1 then to else if p1 ≤ 300 then if ((f 0) + p1) ≤ 9999 then (gv33_2_X1_runTicks f se to re kf p1) else to else to
def sw3_X1_runTicks (f : Nat → Int32) (se : Nat → Int32) (to : Nat → Int32) (re : Nat → Int32) (kf : Nat → Int32) (p1 : Int32) : Nat → Int32 := if p1 < 1 then re else if p1 ≤ 300 then if ((f 0) + p1) ≤ 9999 then (gv33_3_X1_runTicks f se to re kf p1) else re else re
def sw4_X1_runTicks (f : Nat → Int32) (se : Nat → Int32) (to : Nat → Int32) (re : Nat → Int32) (kf : Nat → Int32) (p1 : Int32) : Nat → Int32 := if p1 < 1 then kf else if p1 ≤ 300 then if ((f 0) + p1) ≤ 9999 then (gv33_4_X1_runTicks f se to re kf p1) else kf else kf
abbrev po_X1_runTicks (cI cC cL : ClassId) (h t1 h1 h2 h3 : Nat) (f se to re kf : Nat → Int32) (p1 : Int32) : Int32 → va_W → Prop := fun r w' => sr_X1_runTicks f se to re kf p1 = r ∧ [oL h h1 h2 h3 (sw0_X1_runTicks f se to re kf p1), aI cI h1 3 se, aI cI h2 7 (sw2_X1_runTicks f se to re kf p1), aI cI h3 60 (sw3_X1_runTicks f se to re kf p1), oK t1 (sw4_X1_runTicks f se to re kf p1)] = w'
set_option maxHeartbeats 4000000 in
set_option maxRecDepth 100000 in
theorem ct_X1_runTicks (l : Launch) (D : va_G) (cI cC cL : ClassId) (h t1 h1 h2 h3 : Nat) (f se to re kf : Nat → Int32) (p1 : Int32) : ag_MI l yX1_runTicks cX1_runTicks 3 .int 4 88 D cI cC cL [.ref h, .int p1, .ref t1] [oL h h1 h2 h3 f, aI cI h1 3 se, aI cI h2 7 to, aI cI h3 60 re, oK t1 kf] (po_X1_runTicks cI cC cL h t1 h1 h2 h3 f se to re kf p1) := by
  refine ag_MI.of (plainFor_of_name (by decide)) (Nat.le_of_ble_eq_true rfl) ?_
  intro p e s m below meth c hx hb hr hlocks hml hown hmn hG hK A hN hA H locs hP hD hS ls hl
  have hl : lv_has ls 3 [(0, .ref h), (1, .int p1), (2, .ref t1)] := hl
  refine lv_iload_n hx hb dX1_runTicks_0 rfl (lv_at hl 1 rfl) ?_
  refine lv_iconst (v := 1) hx hb dX1_runTicks_1 (by decide) ?_
  refine lv_icmp_lt (tgt := 12) hx hb dX1_runTicks_2 (by decide) (fun c_2 => ?_) (fun c_2 => ?_)
  · refine lv_ldc (v := (-1000000001)) hx hb hown (hG _ k_266) dX1_runTicks_12 ?_
    exact ag_iret [h, h1, h2, h3, t1] hx hb hr rfl hlocks hP hS rfl rfl ⟨(by unfold sr_X1_runTicks; rw [if_pos c_2]), (by show _ = _; rw [show sw0_X1_runTicks f se to re kf p1 = f from (by unfold sw0_X1_runTicks; rw [if_pos c_2]), show sw2_X1_runTicks f se to re kf p1 = to from (by unfold sw2_X1_runTicks; rw [if_pos c_2]), show sw3_X1_runTicks f se to re kf p1 = re from (by unfold sw3_X1_runTicks; rw [if_pos c_2]), show sw4_X1_runTicks f se to re kf p1 = kf from (by unfold sw4_X1_runTicks; rw [if_pos c_2])])⟩ dX1_runTicks_14
  · refine lv_iload_n hx hb dX1_runTicks_5 rfl (lv_at hl 1 rfl) ?_
    refine lv_sipush (v := 300) hx hb dX1_runTicks_6 (by decide) ?_
    refine lv_icmp_le (tgt := 15) hx hb dX1_runTicks_9 (by decide) (fun c_9 => ?_) (fun c_9 => ?_)
    · refine lv_aload_n hx hb dX1_runTicks_15 rfl (lv_at hl 0 rfl) ?_
      refine ag_getX1 (v := .int (f 0)) hx hb hG hown hK hP 0 0 rfl (by decide) k_30 rfl dX1_runTicks_16 ?_
      refine lv_iload_n hx hb dX1_runTicks_19 rfl (lv_at hl 1 rfl) ?_
      refine lv_iadd hx hb dX1_runTicks_20 ?_
      refine lv_sipush (v := 9999) hx hb dX1_runTicks_21 (by decide) ?_
      refine lv_icmp_le (tgt := 30) hx hb dX1_runTicks_24 (by decide) (fun c_24 => ?_) (fun c_24 => ?_)
      · refine lv_aload_n hx hb dX1_runTicks_30 rfl (lv_at hl 0 rfl) ?_
        refine lv_iload_n hx hb dX1_runTicks_31 rfl (lv_at hl 1 rfl) ?_
        refine lv_aload_n hx hb dX1_runTicks_32 rfl (lv_at hl 2 rfl) ?_
        refine ag_callVv (As := [.int p1, .ref t1]) (rest := []) hx hb hml hown hG hK hN hA hP hD hS hl (ct_X1_letPass l D cI cC cL h t1 h1 h2 h3 f se to re kf p1 p1.toNatClampNeg (ag_pos c_2)) fX1_letPass k_341 ag_cut_all (q0 := 0) rfl rfl rfl rfl (Nat.le_of_ble_eq_true rfl) ⟨Nat.le_of_ble_eq_true rfl, Nat.le_of_ble_eq_true rfl⟩ ⟨Nat.zero_le _, Nat.zero_le _⟩ dX1_runTicks_33 (fun w1 H locs hw hP hD hS => ?_)
        have hw : _ = w1 := hw
        generalize eg33_1 : (lp se p1.toNatClampNeg (f, to, re, kf)).1 = g33_1 at hw
        replace eg33_1 : gv33_1_X1_runTicks f se to re kf p1 = g33_1 := (by rw [← eg33_1]; rfl)
        generalize eg33_2 : (lp se p1.toNatClampNeg (f, to, re, kf)).2.1 = g33_2 at hw
        replace eg33_2 : gv33_2_X1_runTicks f se to re kf p1 = g33_2 := (by rw [← eg33_2]; rfl)
        generalize eg33_3 : (lp se p1.toNatClampNeg (f, to, re, kf)).2.2.1 = g33_3 at hw
        replace eg33_3 : gv33_3_X1_runTicks f se to re kf p1 = g33_3 := (by rw [← eg33_3]; rfl)
        generalize eg33_4 : (lp se p1.toNatClampNeg (f, to, re, kf)).2.2.2 = g33_4 at hw
        replace eg33_4 : gv33_4_X1_runTicks f se to re kf p1 = g33_4 := (by rw [← eg33_4]; rfl)
        subst hw
        have hP : va_P D vwCl [oL h h1 h2 h3 g33_1, aI cI h1 3 se, aI cI h2 7 g33_2, aI cI h3 60 g33_3, oK t1 g33_4] H := hP
        have hD : va_D A [oL h h1 h2 h3 g33_1, aI cI h1 3 se, aI cI h2 7 g33_2, aI cI h3 60 g33_3, oK t1 g33_4] := hD
        refine lv_aload_n hx hb dX1_runTicks_36 rfl (lv_at hl 0 rfl) ?_
        refine ag_callVi (As := []) (rest := []) hx hb hml hown hG hK hN hA hP hD hS hl (ct_X1_level l D cI cC cL h h1 h2 h3 g33_1 se g33_2 g33_3) fX1_level k_214 (ag_cut_1 [] [oK t1 g33_4] rfl) (q0 := 0) rfl rfl rfl rfl (Nat.le_of_ble_eq_true rfl) ⟨Nat.le_of_ble_eq_true rfl, Nat.le_of_ble_eq_true rfl⟩ ⟨Nat.zero_le _, Nat.zero_le _⟩ dX1_runTicks_37 (fun r w1 H locs hw hP hD hS => ?_)
        obtain ⟨rfl, hw⟩ := hw
        subst hw
        have hP : va_P D vwCl [oL h h1 h2 h3 g33_1, aI cI h1 3 se, aI cI h2 7 g33_2, aI cI h3 60 g33_3, oK t1 g33_4] H := hP
        have hD : va_D A [oL h h1 h2 h3 g33_1, aI cI h1 3 se, aI cI h2 7 g33_2, aI cI h3 60 g33_3, oK t1 g33_4] := hD
        revert hP; revert hD; revert hS; revert hl
        subst eg33_4
        subst eg33_3
        subst eg33_2
        subst eg33_1
        intro hl hS hD hP
        exact ag_iret [h, h1, h2, h3, t1] hx hb hr rfl hlocks hP hS rfl rfl ⟨(by unfold sr_X1_runTicks; rw [if_neg c_2, if_pos c_9, if_pos c_24]), (by show _ = _; rw [show sw0_X1_runTicks f se to re kf p1 = (gv33_1_X1_runTicks f se to re kf p1) from (by unfold sw0_X1_runTicks; rw [if_neg c_2, if_pos c_9, if_pos c_24]), show sw2_X1_runTicks f se to re kf p1 = (gv33_2_X1_runTicks f se to re kf p1) from (by unfold sw2_X1_runTicks; rw [if_neg c_2, if_pos c_9, if_pos c_24]), show sw3_X1_runTicks f se to re kf p1 = (gv33_3_X1_runTicks f se to re kf p1) from (by unfold sw3_X1_runTicks; rw [if_neg c_2, if_pos c_9, if_pos c_24]), show sw4_X1_runTicks f se to re kf p1 = (gv33_4_X1_runTicks f se to re kf p1) from (by unfold sw4_X1_runTicks; rw [if_neg c_2, if_pos c_9, if_pos c_24])])⟩ dX1_runTicks_40
      · refine lv_ldc (v := (-1000000003)) hx hb hown (hG _ k_340) dX1_runTicks_27 ?_
        exact ag_iret [h, h1, h2, h3, t1] hx hb hr rfl hlocks hP hS rfl rfl ⟨(by unfold sr_X1_runTicks; rw [if_neg c_2, if_pos c_9, if_neg c_24]), (by show _ = _; rw [show sw0_X1_runTicks f se to re kf p1 = f from (by unfold sw0_X1_runTicks; rw [if_neg c_2, if_pos c_9, if_neg c_24]), show sw2_X1_runTicks f se to re kf p1 = to from (by unfold sw2_X1_runTicks; rw [if_neg c_2, if_pos c_9, if_neg c_24]), show sw3_X1_runTicks f se to re kf p1 = re from (by unfold sw3_X1_runTicks; rw [if_neg c_2, if_pos c_9, if_neg c_24]), show sw4_X1_runTicks f se to re kf p1 = kf from (by unfold sw4_X1_runTicks; rw [if_neg c_2, if_pos c_9, if_neg c_24])])⟩ dX1_runTicks_29
    · refine lv_ldc (v := (-1000000001)) hx hb hown (hG _ k_266) dX1_runTicks_12 ?_
      exact ag_iret [h, h1, h2, h3, t1] hx hb hr rfl hlocks hP hS rfl rfl ⟨(by unfold sr_X1_runTicks; rw [if_neg c_2, if_neg c_9]), (by show _ = _; rw [show sw0_X1_runTicks f se to re kf p1 = f from (by unfold sw0_X1_runTicks; rw [if_neg c_2, if_neg c_9]), show sw2_X1_runTicks f se to re kf p1 = to from (by unfold sw2_X1_runTicks; rw [if_neg c_2, if_neg c_9]), show sw3_X1_runTicks f se to re kf p1 = re from (by unfold sw3_X1_runTicks; rw [if_neg c_2, if_neg c_9]), show sw4_X1_runTicks f se to re kf p1 = kf from (by unfold sw4_X1_runTicks; rw [if_neg c_2, if_neg c_9])])⟩ dX1_runTicks_14
