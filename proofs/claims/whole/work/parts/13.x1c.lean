/-! ticks, texts -/
abbrev ltu : Type := (Nat → Int32) × (Nat → Int32) × (Nat → Int32) × (Nat → Int32)
/-- what a tick foresees; a tick; some ticks: the numbers of the lagoon, its sums, its records, the tick -/
def lpK (se : Nat → Int32) (x : ltu) : Nat → Int32 := sw0_X4_foresee x.2.2.2 x.1 se (sr_X1_head x.1)
def lpS (se : Nat → Int32) (x : ltu) : ltu :=
  (upd (sw0_X1_take x.1 (lpK se x)) 0 (sw0_X1_take x.1 (lpK se x) 0 + 1), sw2_X1_take x.2.1 (lpK se x), sw3_X1_enterRecord (sw0_X1_take x.1 (lpK se x)) x.2.2.1 (lpK se x), lpK se x)
def lp (se : Nat → Int32) : Nat → ltu → ltu
  | 0, x => x
  | n + 1, x => lp se n (lpS se x)
theorem ag_pos {x : Int32} (h : ¬ x < 1) : x = nI x.toNatClampNeg ∧ x.toNatClampNeg < 2 ^ 31 := by
  have h0 : ¬ x < 0 := fun h2 => h (by rw [Int32.lt_iff_toInt_lt] at *; have e0 : (0 : Int32).toInt = 0 := rfl; have e1 : (1 : Int32).toInt = 1 := rfl; omega)
  obtain ⟨j, hj, rfl⟩ := nI_of h0
  rw [nI_clamp hj]
  exact ⟨rfl, hj⟩
theorem ag_nn {x : Int32} (h : ¬ x < 0) : x = nI x.toNatClampNeg ∧ x.toNatClampNeg < 2 ^ 31 := by
  obtain ⟨j, hj, rfl⟩ := nI_of h
  rw [nI_clamp hj]
  exact ⟨rfl, hj⟩
theorem ag_ixn {x : Int32} {n : Nat} (hn : n < 2 ^ 31) (h0 : ¬ x < 0) (h1 : ¬ nI n ≤ x) : x = nI x.toNatClampNeg ∧ x.toNatClampNeg < n := by
  obtain ⟨j, hj, rfl⟩ := nI_of h0
  rw [nI_clamp hj]
  exact ⟨rfl, Nat.not_le.mp (fun h => h1 ((nI_leI hn hj).mpr h))⟩

def gv13_1_X1_letPass (se : Nat → Int32) (fi : Nat → Int32) (ki : Nat → Int32) : Nat → Int32 := sw0_X4_foresee ki fi se (sr_X1_head fi)
def gv18_2_X1_letPass (se : Nat → Int32) (fi : Nat → Int32) (ki : Nat → Int32) : Nat → Int32 := sw0_X1_take fi (gv13_1_X1_letPass se fi ki)
def gv18_3_X1_letPass (se : Nat → Int32) (fi : Nat → Int32) (ti : Nat → Int32) (ki : Nat → Int32) : Nat → Int32 := sw2_X1_take ti (gv13_1_X1_letPass se fi ki)
def gv23_4_X1_letPass (se : Nat → Int32) (fi : Nat → Int32) (ri : Nat → Int32) (ki : Nat → Int32) : Nat → Int32 := sw3_X1_enterRecord (gv18_2_X1_letPass se fi ki) ri (gv13_1_X1_letPass se fi ki)
def xv33_5_X1_letPass (se : Nat → Int32) (fi : Nat → Int32) (ki : Nat → Int32) : Int32 := ((gv18_2_X1_letPass se fi ki) 0) + 1
abbrev po_X1_letPass (cI cC cL : ClassId) (h t1 h1 h2 h3 : Nat) (f se to re kf : Nat → Int32) (p1 : Int32) (N : Nat) (hp : p1 = nI N ∧ N < 2 ^ 31) : va_W → Prop := fun w' => [oL h h1 h2 h3 ((lp se N (f, to, re, kf)).1), aI cI h1 3 se, aI cI h2 7 ((lp se N (f, to, re, kf)).2.1), aI cI h3 60 ((lp se N (f, to, re, kf)).2.2.1), oK t1 ((lp se N (f, to, re, kf)).2.2.2)] = w'
set_option maxHeartbeats 4000000 in
set_option maxRecDepth 100000 in
theorem ct_X1_letPass (l : Launch) (D : va_G) (cI cC cL : ClassId) (h t1 h1 h2 h3 : Nat) (f se to re kf : Nat → Int32) (p1 : Int32) (N : Nat) (hp : p1 = nI N ∧ N < 2 ^ 31) : ag_MV l yX1_letPass cX1_letPass 4 3 65 D cI cC cL [.ref h, .int p1, .ref t1] [oL h h1 h2 h3 f, aI cI h1 3 se, aI cI h2 7 to, aI cI h3 60 re, oK t1 kf] (po_X1_letPass cI cC cL h t1 h1 h2 h3 f se to re kf p1 N hp) := by
  refine ag_MV.of (plainFor_of_name (by decide)) (Nat.le_of_ble_eq_true rfl) ?_
  intro p e s m below meth c hx hb hr hlocks hml hown hmn hG hK A hN hA H locs hP hD hS ls hl
  have hl : lv_has ls 4 [(0, .ref h), (1, .int p1), (2, .ref t1)] := hl
  refine lv_iconst (v := 0) hx hb dX1_letPass_0 (by decide) ?_
  refine lv_istore_n (lv' := [(3, .int 0), (0, .ref h), (1, .int p1), (2, .ref t1)]) hx hb dX1_letPass_1 rfl hl (by decide) rfl (fun ls hl => ?_)
  suffices L2 : ∀ (n : Nat) (i : Nat) (fi ti ri ki : Nat → Int32), (hi : i + n = N) → (hR : lp se n (fi, ti, ri, ki) = lp se N (f, to, re, kf)) → ∀ (H : Heap) (locs : List Loc) (ls : Array Slot), lv_has ls 4 [(0, .ref h), (1, .int p1), (2, .ref t1), (3, .int (nI i))] → va_P D vwCl [oL h h1 h2 h3 fi, aI cI h1 3 se, aI cI h2 7 ti, aI cI h3 60 ri, oK t1 ki] H → va_D A [oL h h1 h2 h3 fi, aI cI h1 3 se, aI cI h2 7 ti, aI cI h3 60 ri, oK t1 ki] → va_S A s.heap H locs → W p l e (ag_rm 3 65) s m ([.ref h, .int p1, .ref t1] : List Value).toArray below meth c H locs 0 0 (MQ below (va_Qv (po_X1_letPass cI cC cL h t1 h1 h2 h3 f se to re kf p1 N hp) (ag_Out D [oL h h1 h2 h3 f, aI cI h1 3 se, aI cI h2 7 to, aI cI h3 60 re, oK t1 kf]) A) ([.ref h, .int p1, .ref t1] : List Value).toArray s 0 0 A) (F0 m 2 ls []) from L2 N 0 f to re kf (by omega) rfl H locs ls (lv_sub hl [1, 2, 3, 0] rfl) hP hD hS
  intro n
  induction n with
  | zero =>
    intro i fi ti ri ki hi hR H locs ls hl hP hD hS
    refine lv_iload_n hx hb dX1_letPass_2 rfl (lv_at hl 3 rfl) ?_
    refine lv_iload_n hx hb dX1_letPass_3 rfl (lv_at hl 1 rfl) ?_
    refine lv_icmp_ge (tgt := 42) hx hb dX1_letPass_4 (by decide) (fun _ => ?_) (fun h0 => absurd (by rw [hp.1]; exact nI_le (by omega) (by omega)) h0)
    exact ag_vret [h, h1, h2, h3, t1] hx hb hr hlocks hP hS rfl rfl (by show _ = _; rw [← hR]; rfl) dX1_letPass_42
  | succ n ih =>
    intro i fi ti ri ki hi hR H locs ls hl hP hD hS
    refine lv_iload_n hx hb dX1_letPass_2 rfl (lv_at hl 3 rfl) ?_
    refine lv_iload_n hx hb dX1_letPass_3 rfl (lv_at hl 1 rfl) ?_
    refine lv_icmp_ge (tgt := 42) hx hb dX1_letPass_4 (by decide) (fun h0 => absurd h0 (by rw [hp.1]; exact nI_ge (by omega) hp.2)) (fun _ => ?_)
    refine lv_aload_n hx hb dX1_letPass_7 rfl (lv_at hl 2 rfl) ?_
    refine lv_aload_n hx hb dX1_letPass_8 rfl (lv_at hl 0 rfl) ?_
    refine lv_aload_n hx hb dX1_letPass_9 rfl (lv_at hl 0 rfl) ?_
    refine ag_callVi (As := []) (rest := [.ref h, .ref t1]) hx hb hml hown hG hK hN hA hP hD hS hl (ct_X1_head l D cI cC cL h h1 h2 h3 fi se ti ri) fX1_head k_312 (ag_cut_1 [] [oK t1 ki] rfl) (q0 := 0) rfl rfl rfl rfl (Nat.le_of_ble_eq_true rfl) ⟨Nat.le_of_ble_eq_true rfl, Nat.le_of_ble_eq_true rfl⟩ ⟨Nat.zero_le _, Nat.zero_le _⟩ dX1_letPass_10 (fun r w1 H locs hw hP hD hS => ?_)
    obtain ⟨rfl, hw⟩ := hw
    subst hw
    have hP : va_P D vwCl [oL h h1 h2 h3 fi, aI cI h1 3 se, aI cI h2 7 ti, aI cI h3 60 ri, oK t1 ki] H := hP
    have hD : va_D A [oL h h1 h2 h3 fi, aI cI h1 3 se, aI cI h2 7 ti, aI cI h3 60 ri, oK t1 ki] := hD
    refine ag_callVv (As := [.ref h, .int (sr_X1_head fi)]) (rest := []) hx hb hml hown hG hK hN hA hP hD hS hl (ct_X4_foresee l D cI cC cL t1 h h1 h2 h3 ki fi se ti ri (sr_X1_head fi)) fX4_foresee k_326 (ag_cut_2s 1 [] [oK t1 ki] [] [oL h h1 h2 h3 fi, aI cI h1 3 se, aI cI h2 7 ti, aI cI h3 60 ri] [] rfl rfl rfl) (q0 := 4) rfl rfl rfl rfl (Nat.le_of_ble_eq_true rfl) ⟨Nat.le_of_ble_eq_true rfl, Nat.le_of_ble_eq_true rfl⟩ ⟨Nat.zero_le _, Nat.zero_le _⟩ dX1_letPass_13 (fun w1 H locs hw hP hD hS => ?_)
    have hw : _ = w1 := hw
    generalize eg13_1 : sw0_X4_foresee ki fi se (sr_X1_head fi) = g13_1 at hw
    replace eg13_1 : gv13_1_X1_letPass se fi ki = g13_1 := (by rw [← eg13_1]; rfl)
    subst hw
    have hP : va_P D vwCl [oL h h1 h2 h3 fi, aI cI h1 3 se, aI cI h2 7 ti, aI cI h3 60 ri, oK t1 g13_1] H := hP
    have hD : va_D A [oL h h1 h2 h3 fi, aI cI h1 3 se, aI cI h2 7 ti, aI cI h3 60 ri, oK t1 g13_1] := hD
    refine lv_aload_n hx hb dX1_letPass_16 rfl (lv_at hl 0 rfl) ?_
    refine lv_aload_n hx hb dX1_letPass_17 rfl (lv_at hl 2 rfl) ?_
    refine ag_callVv (As := [.ref t1]) (rest := []) hx hb hml hown hG hK hN hA hP hD hS hl (ct_X1_take l D cI cC cL h t1 h1 h2 h3 fi se ti ri g13_1) fX1_take k_346 ag_cut_all (q0 := 0) rfl rfl rfl rfl (Nat.le_of_ble_eq_true rfl) ⟨Nat.le_of_ble_eq_true rfl, Nat.le_of_ble_eq_true rfl⟩ ⟨Nat.zero_le _, Nat.zero_le _⟩ dX1_letPass_18 (fun w1 H locs hw hP hD hS => ?_)
    have hw : _ = w1 := hw
    generalize eg18_2 : sw0_X1_take fi g13_1 = g18_2 at hw
    replace eg18_2 : gv18_2_X1_letPass se fi ki = g18_2 := (by rw [← eg18_2, ← eg13_1]; rfl)
    generalize eg18_3 : sw2_X1_take ti g13_1 = g18_3 at hw
    replace eg18_3 : gv18_3_X1_letPass se fi ti ki = g18_3 := (by rw [← eg18_3, ← eg13_1]; rfl)
    subst hw
    have hP : va_P D vwCl [oL h h1 h2 h3 g18_2, aI cI h1 3 se, aI cI h2 7 g18_3, aI cI h3 60 ri, oK t1 g13_1] H := hP
    have hD : va_D A [oL h h1 h2 h3 g18_2, aI cI h1 3 se, aI cI h2 7 g18_3, aI cI h3 60 ri, oK t1 g13_1] := hD
    refine lv_aload_n hx hb dX1_letPass_21 rfl (lv_at hl 0 rfl) ?_
    refine lv_aload_n hx hb dX1_letPass_22 rfl (lv_at hl 2 rfl) ?_
    refine ag_callVv (As := [.ref t1]) (rest := []) hx hb hml hown hG hK hN hA hP hD hS hl (ct_X1_enterRecord l D cI cC cL h t1 h1 h2 h3 g18_2 se g18_3 ri g13_1) fX1_enterRecord k_350 ag_cut_all (q0 := 0) rfl rfl rfl rfl (Nat.le_of_ble_eq_true rfl) ⟨Nat.le_of_ble_eq_true rfl, Nat.le_of_ble_eq_true rfl⟩ ⟨Nat.zero_le _, Nat.zero_le _⟩ dX1_letPass_23 (fun w1 H locs hw hP hD hS => ?_)
    have hw : _ = w1 := hw
    generalize eg23_4 : sw3_X1_enterRecord g18_2 ri g13_1 = g23_4 at hw
    replace eg23_4 : gv23_4_X1_letPass se fi ri ki = g23_4 := (by rw [← eg23_4, ← eg13_1, ← eg18_2]; rfl)
    subst hw
    have hP : va_P D vwCl [oL h h1 h2 h3 g18_2, aI cI h1 3 se, aI cI h2 7 g18_3, aI cI h3 60 g23_4, oK t1 g13_1] H := hP
    have hD : va_D A [oL h h1 h2 h3 g18_2, aI cI h1 3 se, aI cI h2 7 g18_3, aI cI h3 60 g23_4, oK t1 g13_1] := hD
    refine lv_aload_n hx hb dX1_letPass_26 rfl (lv_at hl 0 rfl) ?_
    refine lv_dup hx hb dX1_letPass_27 rfl ?_
    refine ag_getX1 (v := .int (g18_2 0)) hx hb hG hown hK hP 0 0 rfl (by decide) k_53 rfl dX1_letPass_28 ?_
    refine lv_iconst (v := 1) hx hb dX1_letPass_31 (by decide) ?_
    refine lv_iadd hx hb dX1_letPass_32 ?_
    refine ag_topn (v := xv33_5_X1_letPass se fi ki) (by rw [← eg18_2]; rfl) (fun x33_5 ex33_5 => ?_)
    refine ag_putX1 hx hb hG hown hK hP hD hS 0 0 rfl (by decide) k_53 (by decide) rfl rfl (Nat.le_of_ble_eq_true rfl) dX1_letPass_33 (fun H locs hP hD hS => ?_)
    have hP : va_P D vwCl [oL h h1 h2 h3 (upd g18_2 0 x33_5), aI cI h1 3 se, aI cI h2 7 g18_3, aI cI h3 60 g23_4, oK t1 g13_1] H := hP
    have hD : va_D A [oL h h1 h2 h3 (upd g18_2 0 x33_5), aI cI h1 3 se, aI cI h2 7 g18_3, aI cI h3 60 g23_4, oK t1 g13_1] := hD
    refine lv_iinc (v := nI (i + 1)) (lv' := [(3, .int (nI (i + 1))), (0, .ref h), (1, .int p1), (2, .ref t1)]) hx hb dX1_letPass_36 hl (k := 3) rfl (nI_1 i) (by decide) rfl (fun ls hl => ?_)
    refine lv_goto (tgt := 2) hx hb dX1_letPass_39 (by decide) ?_
    revert hP; revert hD; revert hS; revert hl
    subst ex33_5
    subst eg23_4
    subst eg18_3
    subst eg18_2
    subst eg13_1
    intro hl hS hD hP
    exact ih (i + 1) (upd (gv18_2_X1_letPass se fi ki) 0 (xv33_5_X1_letPass se fi ki)) (gv18_3_X1_letPass se fi ti ki) (gv23_4_X1_letPass se fi ri ki) (gv13_1_X1_letPass se fi ki) (by omega) hR H locs ls (lv_sub hl [1, 2, 3, 0] rfl) hP hD hS
def gv33_1_X1_runTicks (f : Nat → Int32) (se : Nat → Int32) (to : Nat → Int32) (re : Nat → Int32) (kf : Nat → Int32) (p1 : Int32) : Nat → Int32 := (lp se p1.toNatClampNeg (f, to, re, kf)).1
def gv33_2_X1_runTicks (f : Nat → Int32) (se : Nat → Int32) (to : Nat → Int32) (re : Nat → Int32) (kf : Nat → Int32) (p1 : Int32) : Nat → Int32 := (lp se p1.toNatClampNeg (f, to, re, kf)).2.1
def gv33_3_X1_runTicks (f : Nat → Int32) (se : Nat → Int32) (to : Nat → Int32) (re : Nat → Int32) (kf : Nat → Int32) (p1 : Int32) : Nat → Int32 := (lp se p1.toNatClampNeg (f, to, re, kf)).2.2.1
def gv33_4_X1_runTicks (f : Nat → Int32) (se : Nat → Int32) (to : Nat → Int32) (re : Nat → Int32) (kf : Nat → Int32) (p1 : Int32) : Nat → Int32 := (lp se p1.toNatClampNeg (f, to, re, kf)).2.2.2
def sr_X1_runTicks (f : Nat → Int32) (se : Nat → Int32) (to : Nat → Int32) (re : Nat → Int32) (kf : Nat → Int32) (p1 : Int32) : Int32 := if p1 < 1 then (-1000000001) else if p1 ≤ 300 then if ((f 0) + p1) ≤ 9999 then sr_X1_level (gv33_1_X1_runTicks f se to re kf p1) else (-1000000003) else (-1000000001)
def sw0_X1_runTicks (f : Nat → Int32) (se : Nat → Int32) (to : Nat → Int32) (re : Nat → Int32) (kf : Nat → Int32) (p1 : Int32) : Nat → Int32 := if p1 < 1 then f else if p1 ≤ 300 then if ((f 0) + p1) ≤ 9999 then (gv33_1_X1_runTicks f se to re kf p1) else f else f
def sw2_X1_runTicks (f : Nat → Int32) (se : Nat → Int32) (to : Nat → Int32) (re : Nat → Int32) (kf : Nat → Int32) (p1 : Int32) : Nat → Int32 := if p1 < 1 then to else if p1 ≤ 300 then if ((f 0) + p1) ≤ 9999 then (gv33_2_X1_runTicks f se to re kf p1) else to else to
def sw3_X1_runTicks (f : Nat → Int32) (se : Nat → Int32) (to : Nat → Int32) (re : Nat → Int32) (kf : Nat → Int32) (p1 : Int32) : Nat → Int32 := if p1 < 1 then re else if p1 ≤ 300 then if ((f 0) + p1) ≤ 9999 then (gv33_3_X1_runTicks f se to re kf p1) else re else re
def sw4_X1_runTicks (f : Nat → Int32) (se : Nat → Int32) (to : Nat → Int32) (re : Nat → Int32) (kf : Nat → Int32) (p1 : Int32) : Nat → Int32 := if p1 < 1 then kf else if p1 ≤ 300 then if ((f 0) + p1) ≤ 9999 then (gv33_4_X1_runTicks f se to re kf p1) else kf else kf
abbrev po_X1_runTicks (cI cC cL : ClassId) (h t1 h1 h2 h3 : Nat) (f se to re kf : Nat → Int32) (p1 : Int32) : Int32 → va_W → Prop := fun r w' => sr_X1_runTicks f se to re kf p1 = r ∧ [oL h h1 h2 h3 (sw0_X1_runTicks f se to re kf p1), aI cI h1 3 se, aI cI h2 7 (sw2_X1_runTicks f se to re kf p1), aI cI h3 60 (sw3_X1_runTicks f se to re kf p1), oK t1 (sw4_X1_runTicks f se to re kf p1)] = w'
set_option maxHeartbeats 4000000 in
set_option maxRecDepth 100000 in
theorem ct_X1_runTicks (l : Launch) (D : va_G) (cI cC cL : ClassId) (h t1 h1 h2 h3 : Nat) (f se to re kf : Nat → Int32) (p1 : Int32) : ag_MI l yX1_runTicks cX1_runTicks 3 .int 4 88 D cI cC cL [.ref h, .int p1, .ref t1] [oL h h1 h2 h3 f, aI cI h1 3 se, aI cI h2 7 to, aI cI h3 60 re, oK t1 kf] (po_X1_runTicks cI cC cL h t1 h1 h2 h3 f se to re kf p1) := by
  refine ag_MI.of (plainFor_of_name (by decide)) (Nat.le_of_ble_eq_true rfl) ?_
  intro p e s m below meth c hx hb hr hlocks hml hown hmn hG hK A hN hA H locs hP hD hS ls hl
  have hl : lv_has ls 3 [(0, .ref h), (1, .int p1), (2, .ref t1)] := hl
  refine lv_iload_n hx hb dX1_runTicks_0 rfl (lv_at hl 1 rfl) ?_
  refine lv_iconst (v := 1) hx hb dX1_runTicks_1 (by decide) ?_
  refine lv_icmp_lt (tgt := 12) hx hb dX1_runTicks_2 (by decide) (fun c_2 => ?_) (fun c_2 => ?_)
  · refine lv_ldc (v := (-1000000001)) hx hb hown (hG _ k_251) dX1_runTicks_12 ?_
    exact ag_iret [h, h1, h2, h3, t1] hx hb hr rfl hlocks hP hS rfl rfl ⟨(by unfold sr_X1_runTicks; rw [if_pos c_2]), (by show _ = _; rw [show sw0_X1_runTicks f se to re kf p1 = f from (by unfold sw0_X1_runTicks; rw [if_pos c_2]), show sw2_X1_runTicks f se to re kf p1 = to from (by unfold sw2_X1_runTicks; rw [if_pos c_2]), show sw3_X1_runTicks f se to re kf p1 = re from (by unfold sw3_X1_runTicks; rw [if_pos c_2]), show sw4_X1_runTicks f se to re kf p1 = kf from (by unfold sw4_X1_runTicks; rw [if_pos c_2])])⟩ dX1_runTicks_14
  · refine lv_iload_n hx hb dX1_runTicks_5 rfl (lv_at hl 1 rfl) ?_
    refine lv_sipush (v := 300) hx hb dX1_runTicks_6 (by decide) ?_
    refine lv_icmp_le (tgt := 15) hx hb dX1_runTicks_9 (by decide) (fun c_9 => ?_) (fun c_9 => ?_)
    · refine lv_aload_n hx hb dX1_runTicks_15 rfl (lv_at hl 0 rfl) ?_
      refine ag_getX1 (v := .int (f 0)) hx hb hG hown hK hP 0 0 rfl (by decide) k_53 rfl dX1_runTicks_16 ?_
      refine lv_iload_n hx hb dX1_runTicks_19 rfl (lv_at hl 1 rfl) ?_
      refine lv_iadd hx hb dX1_runTicks_20 ?_
      refine lv_sipush (v := 9999) hx hb dX1_runTicks_21 (by decide) ?_
      refine lv_icmp_le (tgt := 30) hx hb dX1_runTicks_24 (by decide) (fun c_24 => ?_) (fun c_24 => ?_)
      · refine lv_aload_n hx hb dX1_runTicks_30 rfl (lv_at hl 0 rfl) ?_
        refine lv_iload_n hx hb dX1_runTicks_31 rfl (lv_at hl 1 rfl) ?_
        refine lv_aload_n hx hb dX1_runTicks_32 rfl (lv_at hl 2 rfl) ?_
        refine ag_callVv (As := [.int p1, .ref t1]) (rest := []) hx hb hml hown hG hK hN hA hP hD hS hl (ct_X1_letPass l D cI cC cL h t1 h1 h2 h3 f se to re kf p1 p1.toNatClampNeg (ag_pos c_2)) fX1_letPass k_308 ag_cut_all (q0 := 0) rfl rfl rfl rfl (Nat.le_of_ble_eq_true rfl) ⟨Nat.le_of_ble_eq_true rfl, Nat.le_of_ble_eq_true rfl⟩ ⟨Nat.zero_le _, Nat.zero_le _⟩ dX1_runTicks_33 (fun w1 H locs hw hP hD hS => ?_)
        have hw : _ = w1 := hw
        generalize eg33_1 : (lp se p1.toNatClampNeg (f, to, re, kf)).1 = g33_1 at hw
        replace eg33_1 : gv33_1_X1_runTicks f se to re kf p1 = g33_1 := (by rw [← eg33_1]; rfl)
        generalize eg33_2 : (lp se p1.toNatClampNeg (f, to, re, kf)).2.1 = g33_2 at hw
        replace eg33_2 : gv33_2_X1_runTicks f se to re kf p1 = g33_2 := (by rw [← eg33_2]; rfl)
        generalize eg33_3 : (lp se p1.toNatClampNeg (f, to, re, kf)).2.2.1 = g33_3 at hw
        replace eg33_3 : gv33_3_X1_runTicks f se to re kf p1 = g33_3 := (by rw [← eg33_3]; rfl)
        generalize eg33_4 : (lp se p1.toNatClampNeg (f, to, re, kf)).2.2.2 = g33_4 at hw
        replace eg33_4 : gv33_4_X1_runTicks f se to re kf p1 = g33_4 := (by rw [← eg33_4]; rfl)
        subst hw
        have hP : va_P D vwCl [oL h h1 h2 h3 g33_1, aI cI h1 3 se, aI cI h2 7 g33_2, aI cI h3 60 g33_3, oK t1 g33_4] H := hP
        have hD : va_D A [oL h h1 h2 h3 g33_1, aI cI h1 3 se, aI cI h2 7 g33_2, aI cI h3 60 g33_3, oK t1 g33_4] := hD
        refine lv_aload_n hx hb dX1_runTicks_36 rfl (lv_at hl 0 rfl) ?_
        refine ag_callVi (As := []) (rest := []) hx hb hml hown hG hK hN hA hP hD hS hl (ct_X1_level l D cI cC cL h h1 h2 h3 g33_1 se g33_2 g33_3) fX1_level k_322 (ag_cut_1 [] [oK t1 g33_4] rfl) (q0 := 0) rfl rfl rfl rfl (Nat.le_of_ble_eq_true rfl) ⟨Nat.le_of_ble_eq_true rfl, Nat.le_of_ble_eq_true rfl⟩ ⟨Nat.zero_le _, Nat.zero_le _⟩ dX1_runTicks_37 (fun r w1 H locs hw hP hD hS => ?_)
        obtain ⟨rfl, hw⟩ := hw
        subst hw
        have hP : va_P D vwCl [oL h h1 h2 h3 g33_1, aI cI h1 3 se, aI cI h2 7 g33_2, aI cI h3 60 g33_3, oK t1 g33_4] H := hP
        have hD : va_D A [oL h h1 h2 h3 g33_1, aI cI h1 3 se, aI cI h2 7 g33_2, aI cI h3 60 g33_3, oK t1 g33_4] := hD
        revert hP; revert hD; revert hS; revert hl
        subst eg33_4
        subst eg33_3
        subst eg33_2
        subst eg33_1
        intro hl hS hD hP
        exact ag_iret [h, h1, h2, h3, t1] hx hb hr rfl hlocks hP hS rfl rfl ⟨(by unfold sr_X1_runTicks; rw [if_neg c_2, if_pos c_9, if_pos c_24]), (by show _ = _; rw [show sw0_X1_runTicks f se to re kf p1 = (gv33_1_X1_runTicks f se to re kf p1) from (by unfold sw0_X1_runTicks; rw [if_neg c_2, if_pos c_9, if_pos c_24]), show sw2_X1_runTicks f se to re kf p1 = (gv33_2_X1_runTicks f se to re kf p1) from (by unfold sw2_X1_runTicks; rw [if_neg c_2, if_pos c_9, if_pos c_24]), show sw3_X1_runTicks f se to re kf p1 = (gv33_3_X1_runTicks f se to re kf p1) from (by unfold sw3_X1_runTicks; rw [if_neg c_2, if_pos c_9, if_pos c_24]), show sw4_X1_runTicks f se to re kf p1 = (gv33_4_X1_runTicks f se to re kf p1) from (by unfold sw4_X1_runTicks; rw [if_neg c_2, if_pos c_9, if_pos c_24])])⟩ dX1_runTicks_40
      · refine lv_ldc (v := (-1000000003)) hx hb hown (hG _ k_307) dX1_runTicks_27 ?_
        exact ag_iret [h, h1, h2, h3, t1] hx hb hr rfl hlocks hP hS rfl rfl ⟨(by unfold sr_X1_runTicks; rw [if_neg c_2, if_pos c_9, if_neg c_24]), (by show _ = _; rw [show sw0_X1_runTicks f se to re kf p1 = f from (by unfold sw0_X1_runTicks; rw [if_neg c_2, if_pos c_9, if_neg c_24]), show sw2_X1_runTicks f se to re kf p1 = to from (by unfold sw2_X1_runTicks; rw [if_neg c_2, if_pos c_9, if_neg c_24]), show sw3_X1_runTicks f se to re kf p1 = re from (by unfold sw3_X1_runTicks; rw [if_neg c_2, if_pos c_9, if_neg c_24]), show sw4_X1_runTicks f se to re kf p1 = kf from (by unfold sw4_X1_runTicks; rw [if_neg c_2, if_pos c_9, if_neg c_24])])⟩ dX1_runTicks_29
    · refine lv_ldc (v := (-1000000001)) hx hb hown (hG _ k_251) dX1_runTicks_12 ?_
      exact ag_iret [h, h1, h2, h3, t1] hx hb hr rfl hlocks hP hS rfl rfl ⟨(by unfold sr_X1_runTicks; rw [if_neg c_2, if_neg c_9]), (by show _ = _; rw [show sw0_X1_runTicks f se to re kf p1 = f from (by unfold sw0_X1_runTicks; rw [if_neg c_2, if_neg c_9]), show sw2_X1_runTicks f se to re kf p1 = to from (by unfold sw2_X1_runTicks; rw [if_neg c_2, if_neg c_9]), show sw3_X1_runTicks f se to re kf p1 = re from (by unfold sw3_X1_runTicks; rw [if_neg c_2, if_neg c_9]), show sw4_X1_runTicks f se to re kf p1 = kf from (by unfold sw4_X1_runTicks; rw [if_neg c_2, if_neg c_9])])⟩ dX1_runTicks_14
theorem ag_chr {x : Int32} (h : ∃ q : Nat, q < 128 ∧ x = nI q) : narrow .char (.int x) = .int x ∧ fits .char (.int x) = true := by
  obtain ⟨q, h1, rfl⟩ := h
  exact pk_charN (by omega)

def sr_X3_characterHere (tf : Nat → Int32) (ch : Nat → Int32) : Int32 := if (tf 1) < 0 then 0 else if (tf 0) ≤ (tf 1) then 0 else if 60 ≤ (tf 1) then 0 else ch ((tf 1).toNatClampNeg)
abbrev po_X3_characterHere (cI cC cL : ClassId) (y1 y2 : Nat) (tf ch : Nat → Int32) (hch : ∀ j : Nat, ∃ q : Nat, q < 128 ∧ ch j = nI q) : Int32 → va_W → Prop := fun r w' => sr_X3_characterHere tf ch = r ∧ [oT y1 y2 tf, aC cC y2 60 ch] = w'
set_option maxHeartbeats 4000000 in
set_option maxRecDepth 100000 in
theorem ct_X3_characterHere (l : Launch) (D : va_G) (cI cC cL : ClassId) (y1 y2 : Nat) (tf ch : Nat → Int32) (hch : ∀ j : Nat, ∃ q : Nat, q < 128 ∧ ch j = nI q) : ag_MI l yX3_characterHere cX3_characterHere 1 .char 0 0 D cI cC cL [.ref y1] [oT y1 y2 tf, aC cC y2 60 ch] (po_X3_characterHere cI cC cL y1 y2 tf ch hch) := by
  refine ag_MI.of (plainFor_of_name (by decide)) (Nat.le_of_ble_eq_true rfl) ?_
  intro p e s m below meth c hx hb hr hlocks hml hown hmn hG hK A hN hA H locs hP hD hS ls hl
  have hl : lv_has ls 1 [(0, .ref y1)] := hl
  refine lv_aload_n hx hb dX3_characterHere_0 rfl (lv_at hl 0 rfl) ?_
  refine ag_getX3 (v := .int (tf 1)) hx hb hG hown hK hP 0 2 rfl (by decide) k_173 rfl dX3_characterHere_1 ?_
  refine lv_if_lt (tgt := 39) hx hb dX3_characterHere_4 (by decide) (fun c_4 => ?_) (fun c_4 => ?_)
  · refine lv_iconst (v := 0) hx hb dX3_characterHere_39 (by decide) ?_
    exact ag_iret [y1, y2] hx hb hr rfl hlocks hP hS rfl rfl ⟨(by unfold sr_X3_characterHere; rw [if_pos c_4]), rfl⟩ dX3_characterHere_40
  · refine lv_aload_n hx hb dX3_characterHere_7 rfl (lv_at hl 0 rfl) ?_
    refine ag_getX3 (v := .int (tf 1)) hx hb hG hown hK hP 0 2 rfl (by decide) k_173 rfl dX3_characterHere_8 ?_
    refine lv_aload_n hx hb dX3_characterHere_11 rfl (lv_at hl 0 rfl) ?_
    refine ag_getX3 (v := .int (tf 0)) hx hb hG hown hK hP 0 1 rfl (by decide) k_169 rfl dX3_characterHere_12 ?_
    refine lv_icmp_ge (tgt := 39) hx hb dX3_characterHere_15 (by decide) (fun c_15 => ?_) (fun c_15 => ?_)
    · refine lv_iconst (v := 0) hx hb dX3_characterHere_39 (by decide) ?_
      exact ag_iret [y1, y2] hx hb hr rfl hlocks hP hS rfl rfl ⟨(by unfold sr_X3_characterHere; rw [if_neg c_4, if_pos c_15]), rfl⟩ dX3_characterHere_40
    · refine lv_aload_n hx hb dX3_characterHere_18 rfl (lv_at hl 0 rfl) ?_
      refine ag_getX3 (v := .int (tf 1)) hx hb hG hown hK hP 0 2 rfl (by decide) k_173 rfl dX3_characterHere_19 ?_
      refine lv_bipush (v := 60) hx hb dX3_characterHere_22 (by decide) ?_
      refine lv_icmp_ge (tgt := 39) hx hb dX3_characterHere_24 (by decide) (fun c_24 => ?_) (fun c_24 => ?_)
      · refine lv_iconst (v := 0) hx hb dX3_characterHere_39 (by decide) ?_
        exact ag_iret [y1, y2] hx hb hr rfl hlocks hP hS rfl rfl ⟨(by unfold sr_X3_characterHere; rw [if_neg c_4, if_neg c_15, if_pos c_24]), rfl⟩ dX3_characterHere_40
      · refine lv_aload_n hx hb dX3_characterHere_27 rfl (lv_at hl 0 rfl) ?_
        refine ag_getX3 (v := .ref y2) hx hb hG hown hK hP 0 0 rfl (by decide) k_168 rfl dX3_characterHere_28 ?_
        refine lv_aload_n hx hb dX3_characterHere_31 rfl (lv_at hl 0 rfl) ?_
        refine ag_getX3 (v := .int (tf 1)) hx hb hG hown hK hP 0 2 rfl (by decide) k_173 rfl dX3_characterHere_32 ?_
        refine ag_cld (k := (tf 1).toNatClampNeg) (v := ch ((tf 1).toNatClampNeg)) hx hb hK hP 1 rfl (ag_ixn (n := 60) (by decide) c_4 c_24).1 (ag_ixn (n := 60) (by decide) c_4 c_24).2 (Nat.le_of_ble_eq_true rfl) rfl dX3_characterHere_35 ?_
        refine lv_goto (tgt := 40) hx hb dX3_characterHere_36 (by decide) ?_
        exact ag_iret [y1, y2] hx hb hr (ag_chr (hch _)).1 hlocks hP hS rfl rfl ⟨(by unfold sr_X3_characterHere; rw [if_neg c_4, if_neg c_15, if_neg c_24]), rfl⟩ dX3_characterHere_40
theorem chH (tf ch : Nat → Int32) (hch : ∀ j : Nat, ∃ q : Nat, q < 128 ∧ ch j = nI q) : ∃ q : Nat, q < 128 ∧ sr_X3_characterHere tf ch = nI q := by
  have h0 : ∃ q : Nat, q < 128 ∧ (0 : Int32) = nI q := ⟨0, by omega, rfl⟩
  unfold sr_X3_characterHere
  split
  · exact h0
  · split
    · exact h0
    · split
      · exact h0
      · exact hch _

def sr_X3_isKind (p1 : Int32) : Int32 := if p1 = 103 then 1 else if p1 = 116 then 1 else if p1 = 112 then 1 else if p1 = 113 then 1 else if p1 = 98 then 1 else if p1 = 114 then 1 else 0
abbrev po_X3_isKind (cI cC cL : ClassId) (p1 : Int32) : Int32 → va_W → Prop := fun r w' => sr_X3_isKind p1 = r ∧ [] = w'
set_option maxHeartbeats 4000000 in
set_option maxRecDepth 100000 in
theorem ct_X3_isKind (l : Launch) (D : va_G) (cI cC cL : ClassId) (p1 : Int32) : ag_MI l yX3_isKind cX3_isKind 1 .boolean 0 0 D cI cC cL [.int p1] [] (po_X3_isKind cI cC cL p1) := by
  refine ag_MI.of (plainFor_of_name (by decide)) (Nat.le_of_ble_eq_true rfl) ?_
  intro p e s m below meth c hx hb hr hlocks hml hown hmn hG hK A hN hA H locs hP hD hS ls hl
  have hl : lv_has ls 1 [(0, .int p1)] := hl
  refine lv_iload_n hx hb dX3_isKind_0 rfl (lv_at hl 0 rfl) ?_
  refine lv_bipush (v := 103) hx hb dX3_isKind_1 (by decide) ?_
  refine lv_icmp_eq (tgt := 36) hx hb dX3_isKind_3 (by decide) (fun c_3 => ?_) (fun c_3 => ?_)
  · refine lv_iconst (v := 1) hx hb dX3_isKind_36 (by decide) ?_
    refine lv_goto (tgt := 41) hx hb dX3_isKind_37 (by decide) ?_
    exact ag_iret [] hx hb hr (by decide) hlocks hP hS rfl rfl ⟨(by unfold sr_X3_isKind; rw [if_pos c_3]), rfl⟩ dX3_isKind_41
  · refine lv_iload_n hx hb dX3_isKind_6 rfl (lv_at hl 0 rfl) ?_
    refine lv_bipush (v := 116) hx hb dX3_isKind_7 (by decide) ?_
    refine lv_icmp_eq (tgt := 36) hx hb dX3_isKind_9 (by decide) (fun c_9 => ?_) (fun c_9 => ?_)
    · refine lv_iconst (v := 1) hx hb dX3_isKind_36 (by decide) ?_
      refine lv_goto (tgt := 41) hx hb dX3_isKind_37 (by decide) ?_
      exact ag_iret [] hx hb hr (by decide) hlocks hP hS rfl rfl ⟨(by unfold sr_X3_isKind; rw [if_neg c_3, if_pos c_9]), rfl⟩ dX3_isKind_41
    · refine lv_iload_n hx hb dX3_isKind_12 rfl (lv_at hl 0 rfl) ?_
      refine lv_bipush (v := 112) hx hb dX3_isKind_13 (by decide) ?_
      refine lv_icmp_eq (tgt := 36) hx hb dX3_isKind_15 (by decide) (fun c_15 => ?_) (fun c_15 => ?_)
      · refine lv_iconst (v := 1) hx hb dX3_isKind_36 (by decide) ?_
        refine lv_goto (tgt := 41) hx hb dX3_isKind_37 (by decide) ?_
        exact ag_iret [] hx hb hr (by decide) hlocks hP hS rfl rfl ⟨(by unfold sr_X3_isKind; rw [if_neg c_3, if_neg c_9, if_pos c_15]), rfl⟩ dX3_isKind_41
      · refine lv_iload_n hx hb dX3_isKind_18 rfl (lv_at hl 0 rfl) ?_
        refine lv_bipush (v := 113) hx hb dX3_isKind_19 (by decide) ?_
        refine lv_icmp_eq (tgt := 36) hx hb dX3_isKind_21 (by decide) (fun c_21 => ?_) (fun c_21 => ?_)
        · refine lv_iconst (v := 1) hx hb dX3_isKind_36 (by decide) ?_
          refine lv_goto (tgt := 41) hx hb dX3_isKind_37 (by decide) ?_
          exact ag_iret [] hx hb hr (by decide) hlocks hP hS rfl rfl ⟨(by unfold sr_X3_isKind; rw [if_neg c_3, if_neg c_9, if_neg c_15, if_pos c_21]), rfl⟩ dX3_isKind_41
        · refine lv_iload_n hx hb dX3_isKind_24 rfl (lv_at hl 0 rfl) ?_
          refine lv_bipush (v := 98) hx hb dX3_isKind_25 (by decide) ?_
          refine lv_icmp_eq (tgt := 36) hx hb dX3_isKind_27 (by decide) (fun c_27 => ?_) (fun c_27 => ?_)
          · refine lv_iconst (v := 1) hx hb dX3_isKind_36 (by decide) ?_
            refine lv_goto (tgt := 41) hx hb dX3_isKind_37 (by decide) ?_
            exact ag_iret [] hx hb hr (by decide) hlocks hP hS rfl rfl ⟨(by unfold sr_X3_isKind; rw [if_neg c_3, if_neg c_9, if_neg c_15, if_neg c_21, if_pos c_27]), rfl⟩ dX3_isKind_41
          · refine lv_iload_n hx hb dX3_isKind_30 rfl (lv_at hl 0 rfl) ?_
            refine lv_bipush (v := 114) hx hb dX3_isKind_31 (by decide) ?_
            refine lv_icmp_ne (tgt := 40) hx hb dX3_isKind_33 (by decide) (fun c_33 => ?_) (fun c_33 => ?_)
            · refine lv_iconst (v := 0) hx hb dX3_isKind_40 (by decide) ?_
              exact ag_iret [] hx hb hr (by decide) hlocks hP hS rfl rfl ⟨(by unfold sr_X3_isKind; rw [if_neg c_3, if_neg c_9, if_neg c_15, if_neg c_21, if_neg c_27, if_neg c_33]), rfl⟩ dX3_isKind_41
            · refine lv_iconst (v := 1) hx hb dX3_isKind_36 (by decide) ?_
              refine lv_goto (tgt := 41) hx hb dX3_isKind_37 (by decide) ?_
              exact ag_iret [] hx hb hr (by decide) hlocks hP hS rfl rfl ⟨(by unfold sr_X3_isKind; rw [if_neg c_3, if_neg c_9, if_neg c_15, if_neg c_21, if_neg c_27, if_pos c_33]), rfl⟩ dX3_isKind_41
def xv17_1_X3_skip (tf : Nat → Int32) : Int32 := (tf 1) + 1
def sr_X3_skip (tf : Nat → Int32) (ch : Nat → Int32) (p1 : Int32) : Int32 := if (sr_X3_characterHere tf ch) = p1 then 1 else 0
def sw0_X3_skip (tf : Nat → Int32) (ch : Nat → Int32) (p1 : Int32) : Nat → Int32 := if (sr_X3_characterHere tf ch) = p1 then upd tf 1 (xv17_1_X3_skip tf) else tf
abbrev po_X3_skip (cI cC cL : ClassId) (y1 y2 : Nat) (tf ch : Nat → Int32) (p1 : Int32) (hch : ∀ j : Nat, ∃ q : Nat, q < 128 ∧ ch j = nI q) : Int32 → va_W → Prop := fun r w' => sr_X3_skip tf ch p1 = r ∧ [oT y1 y2 (sw0_X3_skip tf ch p1), aC cC y2 60 ch] = w'
set_option maxHeartbeats 4000000 in
set_option maxRecDepth 100000 in
theorem ct_X3_skip (l : Launch) (D : va_G) (cI cC cL : ClassId) (y1 y2 : Nat) (tf ch : Nat → Int32) (p1 : Int32) (hch : ∀ j : Nat, ∃ q : Nat, q < 128 ∧ ch j = nI q) : ag_MI l yX3_skip cX3_skip 2 .boolean 1 20 D cI cC cL [.ref y1, .int p1] [oT y1 y2 tf, aC cC y2 60 ch] (po_X3_skip cI cC cL y1 y2 tf ch p1 hch) := by
  refine ag_MI.of (plainFor_of_name (by decide)) (Nat.le_of_ble_eq_true rfl) ?_
  intro p e s m below meth c hx hb hr hlocks hml hown hmn hG hK A hN hA H locs hP hD hS ls hl
  have hl : lv_has ls 2 [(0, .ref y1), (1, .int p1)] := hl
  refine lv_aload_n hx hb dX3_skip_0 rfl (lv_at hl 0 rfl) ?_
  refine ag_callVi (As := []) (rest := []) hx hb hml hown hG hK hN hA hP hD hS hl (ct_X3_characterHere l D cI cC cL y1 y2 tf ch hch) fX3_characterHere k_500 ag_cut_all (q0 := 0) rfl rfl rfl rfl (Nat.le_of_ble_eq_true rfl) ⟨Nat.le_of_ble_eq_true rfl, Nat.le_of_ble_eq_true rfl⟩ ⟨Nat.zero_le _, Nat.zero_le _⟩ dX3_skip_1 (fun r w1 H locs hw hP hD hS => ?_)
  obtain ⟨rfl, hw⟩ := hw
  subst hw
  have hP : va_P D vwCl [oT y1 y2 tf, aC cC y2 60 ch] H := hP
  have hD : va_D A [oT y1 y2 tf, aC cC y2 60 ch] := hD
  refine lv_iload_n hx hb dX3_skip_4 rfl (lv_at hl 1 rfl) ?_
  refine lv_icmp_eq (tgt := 10) hx hb dX3_skip_5 (by decide) (fun c_5 => ?_) (fun c_5 => ?_)
  · refine lv_aload_n hx hb dX3_skip_10 rfl (lv_at hl 0 rfl) ?_
    refine lv_dup hx hb dX3_skip_11 rfl ?_
    refine ag_getX3 (v := .int (tf 1)) hx hb hG hown hK hP 0 2 rfl (by decide) k_173 rfl dX3_skip_12 ?_
    refine lv_iconst (v := 1) hx hb dX3_skip_15 (by decide) ?_
    refine lv_iadd hx hb dX3_skip_16 ?_
    refine ag_topn (v := xv17_1_X3_skip tf) rfl (fun x17_1 ex17_1 => ?_)
    refine ag_putX3 hx hb hG hown hK hP hD hS 0 2 rfl (by decide) k_173 (by decide) rfl rfl (Nat.le_of_ble_eq_true rfl) dX3_skip_17 (fun H locs hP hD hS => ?_)
    have hP : va_P D vwCl [oT y1 y2 (upd tf 1 x17_1), aC cC y2 60 ch] H := hP
    have hD : va_D A [oT y1 y2 (upd tf 1 x17_1), aC cC y2 60 ch] := hD
    refine lv_iconst (v := 1) hx hb dX3_skip_20 (by decide) ?_
    revert hP; revert hD; revert hS; revert hl
    subst ex17_1
    intro hl hS hD hP
    exact ag_iret [y1, y2] hx hb hr (by decide) hlocks hP hS rfl rfl ⟨(by unfold sr_X3_skip; rw [if_pos c_5]), (by show _ = _; rw [show sw0_X3_skip tf ch p1 = upd tf 1 (xv17_1_X3_skip tf) from (by unfold sw0_X3_skip; rw [if_pos c_5])])⟩ dX3_skip_21
  · refine lv_iconst (v := 0) hx hb dX3_skip_8 (by decide) ?_
    exact ag_iret [y1, y2] hx hb hr (by decide) hlocks hP hS rfl rfl ⟨(by unfold sr_X3_skip; rw [if_neg c_5]), (by show _ = _; rw [show sw0_X3_skip tf ch p1 = tf from (by unfold sw0_X3_skip; rw [if_neg c_5])])⟩ dX3_skip_9
def xv49_1_X3_readNumber (tf : Nat → Int32) : Int32 := (tf 1) + 1
def xv49_2_X3_readNumber (tf : Nat → Int32) : Int32 := (xv49_1_X3_readNumber tf) + 1
def xv49_3_X3_readNumber (tf : Nat → Int32) : Int32 := (xv49_2_X3_readNumber tf) + 1
def sr_X3_readNumber (tf : Nat → Int32) (ch : Nat → Int32) : Int32 := if (sr_X3_characterHere tf ch) < 48 then (-1) else if (sr_X3_characterHere tf ch) ≤ 57 then if (sr_X3_characterHere (upd tf 1 (xv49_1_X3_readNumber tf)) ch) < 48 then ((ag_max 0 (-1)) * 10) + ((sr_X3_characterHere tf ch) - 48) else if (sr_X3_characterHere (upd tf 1 (xv49_1_X3_readNumber tf)) ch) ≤ 57 then if (sr_X3_characterHere (upd (upd tf 1 (xv49_1_X3_readNumber tf)) 1 (xv49_2_X3_readNumber tf)) ch) < 48 then ((ag_max 0 (((ag_max 0 (-1)) * 10) + ((sr_X3_characterHere tf ch) - 48))) * 10) + ((sr_X3_characterHere (upd tf 1 (xv49_1_X3_readNumber tf)) ch) - 48) else if (sr_X3_characterHere (upd (upd tf 1 (xv49_1_X3_readNumber tf)) 1 (xv49_2_X3_readNumber tf)) ch) ≤ 57 then ((ag_max 0 (((ag_max 0 (((ag_max 0 (-1)) * 10) + ((sr_X3_characterHere tf ch) - 48))) * 10) + ((sr_X3_characterHere (upd tf 1 (xv49_1_X3_readNumber tf)) ch) - 48))) * 10) + ((sr_X3_characterHere (upd (upd tf 1 (xv49_1_X3_readNumber tf)) 1 (xv49_2_X3_readNumber tf)) ch) - 48) else ((ag_max 0 (((ag_max 0 (-1)) * 10) + ((sr_X3_characterHere tf ch) - 48))) * 10) + ((sr_X3_characterHere (upd tf 1 (xv49_1_X3_readNumber tf)) ch) - 48) else ((ag_max 0 (-1)) * 10) + ((sr_X3_characterHere tf ch) - 48) else (-1)
def sw0_X3_readNumber (tf : Nat → Int32) (ch : Nat → Int32) : Nat → Int32 := if (sr_X3_characterHere tf ch) < 48 then tf else if (sr_X3_characterHere tf ch) ≤ 57 then if (sr_X3_characterHere (upd tf 1 (xv49_1_X3_readNumber tf)) ch) < 48 then upd tf 1 (xv49_1_X3_readNumber tf) else if (sr_X3_characterHere (upd tf 1 (xv49_1_X3_readNumber tf)) ch) ≤ 57 then if (sr_X3_characterHere (upd (upd tf 1 (xv49_1_X3_readNumber tf)) 1 (xv49_2_X3_readNumber tf)) ch) < 48 then upd (upd tf 1 (xv49_1_X3_readNumber tf)) 1 (xv49_2_X3_readNumber tf) else if (sr_X3_characterHere (upd (upd tf 1 (xv49_1_X3_readNumber tf)) 1 (xv49_2_X3_readNumber tf)) ch) ≤ 57 then upd (upd (upd tf 1 (xv49_1_X3_readNumber tf)) 1 (xv49_2_X3_readNumber tf)) 1 (xv49_3_X3_readNumber tf) else upd (upd tf 1 (xv49_1_X3_readNumber tf)) 1 (xv49_2_X3_readNumber tf) else upd tf 1 (xv49_1_X3_readNumber tf) else tf
abbrev po_X3_readNumber (cI cC cL : ClassId) (y1 y2 : Nat) (tf ch : Nat → Int32) (hch : ∀ j : Nat, ∃ q : Nat, q < 128 ∧ ch j = nI q) : Int32 → va_W → Prop := fun r w' => sr_X3_readNumber tf ch = r ∧ [oT y1 y2 (sw0_X3_readNumber tf ch), aC cC y2 60 ch] = w'
set_option maxHeartbeats 4000000 in
set_option maxRecDepth 100000 in
theorem ct_X3_readNumber (l : Launch) (D : va_G) (cI cC cL : ClassId) (y1 y2 : Nat) (tf ch : Nat → Int32) (hch : ∀ j : Nat, ∃ q : Nat, q < 128 ∧ ch j = nI q) : ag_MI l yX3_readNumber cX3_readNumber 4 .int 1 20 D cI cC cL [.ref y1] [oT y1 y2 tf, aC cC y2 60 ch] (po_X3_readNumber cI cC cL y1 y2 tf ch hch) := by
  refine ag_MI.of (plainFor_of_name (by decide)) (Nat.le_of_ble_eq_true rfl) ?_
  intro p e s m below meth c hx hb hr hlocks hml hown hmn hG hK A hN hA H locs hP hD hS ls hl
  have hl : lv_has ls 4 [(0, .ref y1)] := hl
  refine lv_iconst (v := (-1)) hx hb dX3_readNumber_0 (by decide) ?_
  refine lv_istore_n (lv' := [(1, .int (-1)), (0, .ref y1)]) hx hb dX3_readNumber_1 rfl hl (by decide) rfl (fun ls hl => ?_)
  refine lv_iconst (v := 0) hx hb dX3_readNumber_2 (by decide) ?_
  refine lv_istore_n (lv' := [(2, .int 0), (1, .int (-1)), (0, .ref y1)]) hx hb dX3_readNumber_3 rfl hl (by decide) rfl (fun ls hl => ?_)
  refine lv_iload_n hx hb dX3_readNumber_4 rfl (lv_at hl 0 rfl) ?_
  refine lv_iconst (v := 3) hx hb dX3_readNumber_5 (by decide) ?_
  refine lv_icmp_ge (tgt := 58) hx hb dX3_readNumber_6 (by decide) (fun h0 => absurd h0 (by decide)) (fun _ => ?_)
  refine lv_aload_n hx hb dX3_readNumber_9 rfl (lv_at hl 2 rfl) ?_
  refine ag_callVi (As := []) (rest := []) hx hb hml hown hG hK hN hA hP hD hS hl (ct_X3_characterHere l D cI cC cL y1 y2 tf ch hch) fX3_characterHere k_500 ag_cut_all (q0 := 0) rfl rfl rfl rfl (Nat.le_of_ble_eq_true rfl) ⟨Nat.le_of_ble_eq_true rfl, Nat.le_of_ble_eq_true rfl⟩ ⟨Nat.zero_le _, Nat.zero_le _⟩ dX3_readNumber_10 (fun r w1 H locs hw hP hD hS => ?_)
  obtain ⟨rfl, hw⟩ := hw
  subst hw
  have hP : va_P D vwCl [oT y1 y2 tf, aC cC y2 60 ch] H := hP
  have hD : va_D A [oT y1 y2 tf, aC cC y2 60 ch] := hD
  refine lv_istore_n (lv' := [(3, .int (sr_X3_characterHere tf ch)), (2, .int 0), (1, .int (-1)), (0, .ref y1)]) hx hb dX3_readNumber_13 rfl hl (by decide) rfl (fun ls hl => ?_)
  refine lv_iload_n hx hb dX3_readNumber_14 rfl (lv_at hl 0 rfl) ?_
  refine lv_bipush (v := 48) hx hb dX3_readNumber_15 (by decide) ?_
  refine lv_icmp_lt (tgt := 26) hx hb dX3_readNumber_17 (by decide) (fun c_17 => ?_) (fun c_17 => ?_)
  · refine lv_iload_n hx hb dX3_readNumber_26 rfl (lv_at hl 2 rfl) ?_
    exact ag_iret [y1, y2] hx hb hr rfl hlocks hP hS rfl rfl ⟨(by unfold sr_X3_readNumber; rw [if_pos c_17]), (by show _ = _; rw [show sw0_X3_readNumber tf ch = tf from (by unfold sw0_X3_readNumber; rw [if_pos c_17])])⟩ dX3_readNumber_27
  · refine lv_iload_n hx hb dX3_readNumber_20 rfl (lv_at hl 0 rfl) ?_
    refine lv_bipush (v := 57) hx hb dX3_readNumber_21 (by decide) ?_
    refine lv_icmp_le (tgt := 28) hx hb dX3_readNumber_23 (by decide) (fun c_23 => ?_) (fun c_23 => ?_)
    · refine lv_iconst (v := 0) hx hb dX3_readNumber_28 (by decide) ?_
      refine lv_iload_n hx hb dX3_readNumber_29 rfl (lv_at hl 2 rfl) ?_
      refine va_mmax hx hb (hml.trans hl.1.symm) hown (hG _ k_511) (hG _ k_297) (hG _ k_36) (hG _ k_298) (Nat.le_of_ble_eq_true rfl) (Nat.le_of_ble_eq_true rfl) (Nat.zero_le _) (Nat.zero_le _) dX3_readNumber_30 ?_
      refine W.eq (g2 := F0 m 33 ls [.int (ag_max 0 (-1))]) rfl ?_
      refine lv_bipush (v := 10) hx hb dX3_readNumber_33 (by decide) ?_
      refine lv_imul hx hb dX3_readNumber_35 ?_
      refine lv_iload_n hx hb dX3_readNumber_36 rfl (lv_at hl 0 rfl) ?_
      refine lv_bipush (v := 48) hx hb dX3_readNumber_37 (by decide) ?_
      refine lv_isub hx hb dX3_readNumber_39 ?_
      refine lv_iadd hx hb dX3_readNumber_40 ?_
      refine lv_istore_n (lv' := [(1, .int (((ag_max 0 (-1)) * 10) + ((sr_X3_characterHere tf ch) - 48))), (3, .int (sr_X3_characterHere tf ch)), (2, .int 0), (0, .ref y1)]) hx hb dX3_readNumber_41 rfl hl (by decide) rfl (fun ls hl => ?_)
      refine lv_aload_n hx hb dX3_readNumber_42 rfl (lv_at hl 3 rfl) ?_
      refine lv_dup hx hb dX3_readNumber_43 rfl ?_
      refine ag_getX3 (v := .int (tf 1)) hx hb hG hown hK hP 0 2 rfl (by decide) k_173 rfl dX3_readNumber_44 ?_
      refine lv_iconst (v := 1) hx hb dX3_readNumber_47 (by decide) ?_
      refine lv_iadd hx hb dX3_readNumber_48 ?_
      refine ag_topn (v := xv49_1_X3_readNumber tf) rfl (fun x49_1 ex49_1 => ?_)
      refine ag_putX3 hx hb hG hown hK hP hD hS 0 2 rfl (by decide) k_173 (by decide) rfl rfl (Nat.le_of_ble_eq_true rfl) dX3_readNumber_49 (fun H locs hP hD hS => ?_)
      have hP : va_P D vwCl [oT y1 y2 (upd tf 1 x49_1), aC cC y2 60 ch] H := hP
      have hD : va_D A [oT y1 y2 (upd tf 1 x49_1), aC cC y2 60 ch] := hD
      refine lv_iinc (v := 1) (lv' := [(2, .int 1), (1, .int (((ag_max 0 (-1)) * 10) + ((sr_X3_characterHere tf ch) - 48))), (3, .int (sr_X3_characterHere tf ch)), (0, .ref y1)]) hx hb dX3_readNumber_52 hl (k := 2) rfl (by decide) (by decide) rfl (fun ls hl => ?_)
      refine lv_goto (tgt := 4) hx hb dX3_readNumber_55 (by decide) ?_
      refine lv_iload_n hx hb dX3_readNumber_4 rfl (lv_at hl 0 rfl) ?_
      refine lv_iconst (v := 3) hx hb dX3_readNumber_5 (by decide) ?_
      refine lv_icmp_ge (tgt := 58) hx hb dX3_readNumber_6 (by decide) (fun h0 => absurd h0 (by decide)) (fun _ => ?_)
      refine lv_aload_n hx hb dX3_readNumber_9 rfl (lv_at hl 3 rfl) ?_
      refine ag_callVi (As := []) (rest := []) hx hb hml hown hG hK hN hA hP hD hS hl (ct_X3_characterHere l D cI cC cL y1 y2 (upd tf 1 x49_1) ch hch) fX3_characterHere k_500 ag_cut_all (q0 := 0) rfl rfl rfl rfl (Nat.le_of_ble_eq_true rfl) ⟨Nat.le_of_ble_eq_true rfl, Nat.le_of_ble_eq_true rfl⟩ ⟨Nat.zero_le _, Nat.zero_le _⟩ dX3_readNumber_10 (fun r w1 H locs hw hP hD hS => ?_)
      obtain ⟨rfl, hw⟩ := hw
      subst hw
      have hP : va_P D vwCl [oT y1 y2 (upd tf 1 x49_1), aC cC y2 60 ch] H := hP
      have hD : va_D A [oT y1 y2 (upd tf 1 x49_1), aC cC y2 60 ch] := hD
      refine lv_istore_n (lv' := [(3, .int (sr_X3_characterHere (upd tf 1 x49_1) ch)), (2, .int 1), (1, .int (((ag_max 0 (-1)) * 10) + ((sr_X3_characterHere tf ch) - 48))), (0, .ref y1)]) hx hb dX3_readNumber_13 rfl hl (by decide) rfl (fun ls hl => ?_)
      refine lv_iload_n hx hb dX3_readNumber_14 rfl (lv_at hl 0 rfl) ?_
      refine lv_bipush (v := 48) hx hb dX3_readNumber_15 (by decide) ?_
      refine lv_icmp_lt (tgt := 26) hx hb dX3_readNumber_17 (by decide) (fun c_17x => ?_) (fun c_17x => ?_)
      · refine lv_iload_n hx hb dX3_readNumber_26 rfl (lv_at hl 2 rfl) ?_
        revert hP; revert hD; revert hS; revert hl
        subst ex49_1
        intro hl hS hD hP
        exact ag_iret [y1, y2] hx hb hr rfl hlocks hP hS rfl rfl ⟨(by unfold sr_X3_readNumber; rw [if_neg c_17, if_pos c_23, if_pos c_17x]), (by show _ = _; rw [show sw0_X3_readNumber tf ch = upd tf 1 (xv49_1_X3_readNumber tf) from (by unfold sw0_X3_readNumber; rw [if_neg c_17, if_pos c_23, if_pos c_17x])])⟩ dX3_readNumber_27
      · refine lv_iload_n hx hb dX3_readNumber_20 rfl (lv_at hl 0 rfl) ?_
        refine lv_bipush (v := 57) hx hb dX3_readNumber_21 (by decide) ?_
        refine lv_icmp_le (tgt := 28) hx hb dX3_readNumber_23 (by decide) (fun c_23x => ?_) (fun c_23x => ?_)
        · refine lv_iconst (v := 0) hx hb dX3_readNumber_28 (by decide) ?_
          refine lv_iload_n hx hb dX3_readNumber_29 rfl (lv_at hl 2 rfl) ?_
          refine va_mmax hx hb (hml.trans hl.1.symm) hown (hG _ k_511) (hG _ k_297) (hG _ k_36) (hG _ k_298) (Nat.le_of_ble_eq_true rfl) (Nat.le_of_ble_eq_true rfl) (Nat.zero_le _) (Nat.zero_le _) dX3_readNumber_30 ?_
          refine W.eq (g2 := F0 m 33 ls [.int (ag_max 0 (((ag_max 0 (-1)) * 10) + ((sr_X3_characterHere tf ch) - 48)))]) rfl ?_
          refine lv_bipush (v := 10) hx hb dX3_readNumber_33 (by decide) ?_
          refine lv_imul hx hb dX3_readNumber_35 ?_
          refine lv_iload_n hx hb dX3_readNumber_36 rfl (lv_at hl 0 rfl) ?_
          refine lv_bipush (v := 48) hx hb dX3_readNumber_37 (by decide) ?_
          refine lv_isub hx hb dX3_readNumber_39 ?_
          refine lv_iadd hx hb dX3_readNumber_40 ?_
          refine lv_istore_n (lv' := [(1, .int (((ag_max 0 (((ag_max 0 (-1)) * 10) + ((sr_X3_characterHere tf ch) - 48))) * 10) + ((sr_X3_characterHere (upd tf 1 x49_1) ch) - 48))), (3, .int (sr_X3_characterHere (upd tf 1 x49_1) ch)), (2, .int 1), (0, .ref y1)]) hx hb dX3_readNumber_41 rfl hl (by decide) rfl (fun ls hl => ?_)
          refine lv_aload_n hx hb dX3_readNumber_42 rfl (lv_at hl 3 rfl) ?_
          refine lv_dup hx hb dX3_readNumber_43 rfl ?_
          refine ag_getX3 (v := .int x49_1) hx hb hG hown hK hP 0 2 rfl (by decide) k_173 rfl dX3_readNumber_44 ?_
          refine lv_iconst (v := 1) hx hb dX3_readNumber_47 (by decide) ?_
          refine lv_iadd hx hb dX3_readNumber_48 ?_
          refine ag_topn (v := xv49_2_X3_readNumber tf) (by rw [← ex49_1]; rfl) (fun x49_2 ex49_2 => ?_)
          refine ag_putX3 hx hb hG hown hK hP hD hS 0 2 rfl (by decide) k_173 (by decide) rfl rfl (Nat.le_of_ble_eq_true rfl) dX3_readNumber_49 (fun H locs hP hD hS => ?_)
          have hP : va_P D vwCl [oT y1 y2 (upd (upd tf 1 x49_1) 1 x49_2), aC cC y2 60 ch] H := hP
          have hD : va_D A [oT y1 y2 (upd (upd tf 1 x49_1) 1 x49_2), aC cC y2 60 ch] := hD
          refine lv_iinc (v := 2) (lv' := [(2, .int 2), (1, .int (((ag_max 0 (((ag_max 0 (-1)) * 10) + ((sr_X3_characterHere tf ch) - 48))) * 10) + ((sr_X3_characterHere (upd tf 1 x49_1) ch) - 48))), (3, .int (sr_X3_characterHere (upd tf 1 x49_1) ch)), (0, .ref y1)]) hx hb dX3_readNumber_52 hl (k := 2) rfl (by decide) (by decide) rfl (fun ls hl => ?_)
          refine lv_goto (tgt := 4) hx hb dX3_readNumber_55 (by decide) ?_
          refine lv_iload_n hx hb dX3_readNumber_4 rfl (lv_at hl 0 rfl) ?_
          refine lv_iconst (v := 3) hx hb dX3_readNumber_5 (by decide) ?_
          refine lv_icmp_ge (tgt := 58) hx hb dX3_readNumber_6 (by decide) (fun h0 => absurd h0 (by decide)) (fun _ => ?_)
          refine lv_aload_n hx hb dX3_readNumber_9 rfl (lv_at hl 3 rfl) ?_
          refine ag_callVi (As := []) (rest := []) hx hb hml hown hG hK hN hA hP hD hS hl (ct_X3_characterHere l D cI cC cL y1 y2 (upd (upd tf 1 x49_1) 1 x49_2) ch hch) fX3_characterHere k_500 ag_cut_all (q0 := 0) rfl rfl rfl rfl (Nat.le_of_ble_eq_true rfl) ⟨Nat.le_of_ble_eq_true rfl, Nat.le_of_ble_eq_true rfl⟩ ⟨Nat.zero_le _, Nat.zero_le _⟩ dX3_readNumber_10 (fun r w1 H locs hw hP hD hS => ?_)
          obtain ⟨rfl, hw⟩ := hw
          subst hw
          have hP : va_P D vwCl [oT y1 y2 (upd (upd tf 1 x49_1) 1 x49_2), aC cC y2 60 ch] H := hP
          have hD : va_D A [oT y1 y2 (upd (upd tf 1 x49_1) 1 x49_2), aC cC y2 60 ch] := hD
          refine lv_istore_n (lv' := [(3, .int (sr_X3_characterHere (upd (upd tf 1 x49_1) 1 x49_2) ch)), (2, .int 2), (1, .int (((ag_max 0 (((ag_max 0 (-1)) * 10) + ((sr_X3_characterHere tf ch) - 48))) * 10) + ((sr_X3_characterHere (upd tf 1 x49_1) ch) - 48))), (0, .ref y1)]) hx hb dX3_readNumber_13 rfl hl (by decide) rfl (fun ls hl => ?_)
          refine lv_iload_n hx hb dX3_readNumber_14 rfl (lv_at hl 0 rfl) ?_
          refine lv_bipush (v := 48) hx hb dX3_readNumber_15 (by decide) ?_
          refine lv_icmp_lt (tgt := 26) hx hb dX3_readNumber_17 (by decide) (fun c_17xx => ?_) (fun c_17xx => ?_)
          · refine lv_iload_n hx hb dX3_readNumber_26 rfl (lv_at hl 2 rfl) ?_
            revert hP; revert hD; revert hS; revert hl
            subst ex49_2
            subst ex49_1
            intro hl hS hD hP
            exact ag_iret [y1, y2] hx hb hr rfl hlocks hP hS rfl rfl ⟨(by unfold sr_X3_readNumber; rw [if_neg c_17, if_pos c_23, if_neg c_17x, if_pos c_23x, if_pos c_17xx]), (by show _ = _; rw [show sw0_X3_readNumber tf ch = upd (upd tf 1 (xv49_1_X3_readNumber tf)) 1 (xv49_2_X3_readNumber tf) from (by unfold sw0_X3_readNumber; rw [if_neg c_17, if_pos c_23, if_neg c_17x, if_pos c_23x, if_pos c_17xx])])⟩ dX3_readNumber_27
          · refine lv_iload_n hx hb dX3_readNumber_20 rfl (lv_at hl 0 rfl) ?_
            refine lv_bipush (v := 57) hx hb dX3_readNumber_21 (by decide) ?_
            refine lv_icmp_le (tgt := 28) hx hb dX3_readNumber_23 (by decide) (fun c_23xx => ?_) (fun c_23xx => ?_)
            · refine lv_iconst (v := 0) hx hb dX3_readNumber_28 (by decide) ?_
              refine lv_iload_n hx hb dX3_readNumber_29 rfl (lv_at hl 2 rfl) ?_
              refine va_mmax hx hb (hml.trans hl.1.symm) hown (hG _ k_511) (hG _ k_297) (hG _ k_36) (hG _ k_298) (Nat.le_of_ble_eq_true rfl) (Nat.le_of_ble_eq_true rfl) (Nat.zero_le _) (Nat.zero_le _) dX3_readNumber_30 ?_
              refine W.eq (g2 := F0 m 33 ls [.int (ag_max 0 (((ag_max 0 (((ag_max 0 (-1)) * 10) + ((sr_X3_characterHere tf ch) - 48))) * 10) + ((sr_X3_characterHere (upd tf 1 x49_1) ch) - 48)))]) rfl ?_
              refine lv_bipush (v := 10) hx hb dX3_readNumber_33 (by decide) ?_
              refine lv_imul hx hb dX3_readNumber_35 ?_
              refine lv_iload_n hx hb dX3_readNumber_36 rfl (lv_at hl 0 rfl) ?_
              refine lv_bipush (v := 48) hx hb dX3_readNumber_37 (by decide) ?_
              refine lv_isub hx hb dX3_readNumber_39 ?_
              refine lv_iadd hx hb dX3_readNumber_40 ?_
              refine lv_istore_n (lv' := [(1, .int (((ag_max 0 (((ag_max 0 (((ag_max 0 (-1)) * 10) + ((sr_X3_characterHere tf ch) - 48))) * 10) + ((sr_X3_characterHere (upd tf 1 x49_1) ch) - 48))) * 10) + ((sr_X3_characterHere (upd (upd tf 1 x49_1) 1 x49_2) ch) - 48))), (3, .int (sr_X3_characterHere (upd (upd tf 1 x49_1) 1 x49_2) ch)), (2, .int 2), (0, .ref y1)]) hx hb dX3_readNumber_41 rfl hl (by decide) rfl (fun ls hl => ?_)
              refine lv_aload_n hx hb dX3_readNumber_42 rfl (lv_at hl 3 rfl) ?_
              refine lv_dup hx hb dX3_readNumber_43 rfl ?_
              refine ag_getX3 (v := .int x49_2) hx hb hG hown hK hP 0 2 rfl (by decide) k_173 rfl dX3_readNumber_44 ?_
              refine lv_iconst (v := 1) hx hb dX3_readNumber_47 (by decide) ?_
              refine lv_iadd hx hb dX3_readNumber_48 ?_
              refine ag_topn (v := xv49_3_X3_readNumber tf) (by rw [← ex49_2]; rfl) (fun x49_3 ex49_3 => ?_)
              refine ag_putX3 hx hb hG hown hK hP hD hS 0 2 rfl (by decide) k_173 (by decide) rfl rfl (Nat.le_of_ble_eq_true rfl) dX3_readNumber_49 (fun H locs hP hD hS => ?_)
              have hP : va_P D vwCl [oT y1 y2 (upd (upd (upd tf 1 x49_1) 1 x49_2) 1 x49_3), aC cC y2 60 ch] H := hP
              have hD : va_D A [oT y1 y2 (upd (upd (upd tf 1 x49_1) 1 x49_2) 1 x49_3), aC cC y2 60 ch] := hD
              refine lv_iinc (v := 3) (lv' := [(2, .int 3), (1, .int (((ag_max 0 (((ag_max 0 (((ag_max 0 (-1)) * 10) + ((sr_X3_characterHere tf ch) - 48))) * 10) + ((sr_X3_characterHere (upd tf 1 x49_1) ch) - 48))) * 10) + ((sr_X3_characterHere (upd (upd tf 1 x49_1) 1 x49_2) ch) - 48))), (3, .int (sr_X3_characterHere (upd (upd tf 1 x49_1) 1 x49_2) ch)), (0, .ref y1)]) hx hb dX3_readNumber_52 hl (k := 2) rfl (by decide) (by decide) rfl (fun ls hl => ?_)
              refine lv_goto (tgt := 4) hx hb dX3_readNumber_55 (by decide) ?_
              refine lv_iload_n hx hb dX3_readNumber_4 rfl (lv_at hl 0 rfl) ?_
              refine lv_iconst (v := 3) hx hb dX3_readNumber_5 (by decide) ?_
              refine lv_icmp_ge (tgt := 58) hx hb dX3_readNumber_6 (by decide) (fun _ => ?_) (fun h0 => absurd (by decide) h0)
              refine lv_iload_n hx hb dX3_readNumber_58 rfl (lv_at hl 1 rfl) ?_
              revert hP; revert hD; revert hS; revert hl
              subst ex49_3
              subst ex49_2
              subst ex49_1
              intro hl hS hD hP
              exact ag_iret [y1, y2] hx hb hr rfl hlocks hP hS rfl rfl ⟨(by unfold sr_X3_readNumber; rw [if_neg c_17, if_pos c_23, if_neg c_17x, if_pos c_23x, if_neg c_17xx, if_pos c_23xx]), (by show _ = _; rw [show sw0_X3_readNumber tf ch = upd (upd (upd tf 1 (xv49_1_X3_readNumber tf)) 1 (xv49_2_X3_readNumber tf)) 1 (xv49_3_X3_readNumber tf) from (by unfold sw0_X3_readNumber; rw [if_neg c_17, if_pos c_23, if_neg c_17x, if_pos c_23x, if_neg c_17xx, if_pos c_23xx])])⟩ dX3_readNumber_59
            · refine lv_iload_n hx hb dX3_readNumber_26 rfl (lv_at hl 2 rfl) ?_
              revert hP; revert hD; revert hS; revert hl
              subst ex49_2
              subst ex49_1
              intro hl hS hD hP
              exact ag_iret [y1, y2] hx hb hr rfl hlocks hP hS rfl rfl ⟨(by unfold sr_X3_readNumber; rw [if_neg c_17, if_pos c_23, if_neg c_17x, if_pos c_23x, if_neg c_17xx, if_neg c_23xx]), (by show _ = _; rw [show sw0_X3_readNumber tf ch = upd (upd tf 1 (xv49_1_X3_readNumber tf)) 1 (xv49_2_X3_readNumber tf) from (by unfold sw0_X3_readNumber; rw [if_neg c_17, if_pos c_23, if_neg c_17x, if_pos c_23x, if_neg c_17xx, if_neg c_23xx])])⟩ dX3_readNumber_27
        · refine lv_iload_n hx hb dX3_readNumber_26 rfl (lv_at hl 2 rfl) ?_
          revert hP; revert hD; revert hS; revert hl
          subst ex49_1
          intro hl hS hD hP
          exact ag_iret [y1, y2] hx hb hr rfl hlocks hP hS rfl rfl ⟨(by unfold sr_X3_readNumber; rw [if_neg c_17, if_pos c_23, if_neg c_17x, if_neg c_23x]), (by show _ = _; rw [show sw0_X3_readNumber tf ch = upd tf 1 (xv49_1_X3_readNumber tf) from (by unfold sw0_X3_readNumber; rw [if_neg c_17, if_pos c_23, if_neg c_17x, if_neg c_23x])])⟩ dX3_readNumber_27
    · refine lv_iload_n hx hb dX3_readNumber_26 rfl (lv_at hl 2 rfl) ?_
      exact ag_iret [y1, y2] hx hb hr rfl hlocks hP hS rfl rfl ⟨(by unfold sr_X3_readNumber; rw [if_neg c_17, if_neg c_23]), (by show _ = _; rw [show sw0_X3_readNumber tf ch = tf from (by unfold sw0_X3_readNumber; rw [if_neg c_17, if_neg c_23])])⟩ dX3_readNumber_27
def xv5_1_X3_readOrder (tf : Nat → Int32) (ch : Nat → Int32) : Int32 := sr_X3_characterHere tf ch
def xv32_2_X3_readOrder (tf : Nat → Int32) : Int32 := (tf 1) + 1
def gv37_3_X3_readOrder (tf : Nat → Int32) (ch : Nat → Int32) : Nat → Int32 := sw0_X3_readNumber (upd (upd (upd tf 2 (xv5_1_X3_readOrder tf ch)) 4 0) 1 (xv32_2_X3_readOrder tf)) ch
def xv40_4_X3_readOrder (tf : Nat → Int32) (ch : Nat → Int32) : Int32 := sr_X3_readNumber (upd (upd (upd tf 2 (xv5_1_X3_readOrder tf ch)) 4 0) 1 (xv32_2_X3_readOrder tf)) ch
def gv90_5_X3_readOrder (tf : Nat → Int32) (ch : Nat → Int32) : Nat → Int32 := sw0_X3_skip (upd (gv37_3_X3_readOrder tf ch) 3 (xv40_4_X3_readOrder tf ch)) ch 59
def gv64_6_X3_readOrder (tf : Nat → Int32) (ch : Nat → Int32) : Nat → Int32 := sw0_X3_skip (upd (gv37_3_X3_readOrder tf ch) 3 (xv40_4_X3_readOrder tf ch)) ch 44
def gv74_7_X3_readOrder (tf : Nat → Int32) (ch : Nat → Int32) : Nat → Int32 := sw0_X3_readNumber (gv64_6_X3_readOrder tf ch) ch
def xv77_8_X3_readOrder (tf : Nat → Int32) (ch : Nat → Int32) : Int32 := sr_X3_readNumber (gv64_6_X3_readOrder tf ch) ch
def gv90_9_X3_readOrder (tf : Nat → Int32) (ch : Nat → Int32) : Nat → Int32 := sw0_X3_skip (upd (gv74_7_X3_readOrder tf ch) 4 (xv77_8_X3_readOrder tf ch)) ch 59
def sr_X3_readOrder (tf : Nat → Int32) (ch : Nat → Int32) : Int32 := if (sr_X3_isKind (xv5_1_X3_readOrder tf ch)) = 0 then 0 else if 0 ≤ (xv40_4_X3_readOrder tf ch) then if ((gv37_3_X3_readOrder tf ch) 2) = 98 then if (sr_X3_skip (upd (gv37_3_X3_readOrder tf ch) 3 (xv40_4_X3_readOrder tf ch)) ch 44) = 0 then 0 else if (xv77_8_X3_readOrder tf ch) < 0 then 0 else if (sr_X3_skip (upd (gv74_7_X3_readOrder tf ch) 4 (xv77_8_X3_readOrder tf ch)) ch 59) = 0 then 0 else 1 else if ((gv37_3_X3_readOrder tf ch) 4) < 0 then 0 else if (sr_X3_skip (upd (gv37_3_X3_readOrder tf ch) 3 (xv40_4_X3_readOrder tf ch)) ch 59) = 0 then 0 else 1 else 0
def sw0_X3_readOrder (tf : Nat → Int32) (ch : Nat → Int32) : Nat → Int32 := if (sr_X3_isKind (xv5_1_X3_readOrder tf ch)) = 0 then upd (upd tf 2 (xv5_1_X3_readOrder tf ch)) 4 0 else if 0 ≤ (xv40_4_X3_readOrder tf ch) then if ((gv37_3_X3_readOrder tf ch) 2) = 98 then if (sr_X3_skip (upd (gv37_3_X3_readOrder tf ch) 3 (xv40_4_X3_readOrder tf ch)) ch 44) = 0 then (gv64_6_X3_readOrder tf ch) else if (xv77_8_X3_readOrder tf ch) < 0 then upd (gv74_7_X3_readOrder tf ch) 4 (xv77_8_X3_readOrder tf ch) else (gv90_9_X3_readOrder tf ch) else if ((gv37_3_X3_readOrder tf ch) 4) < 0 then upd (gv37_3_X3_readOrder tf ch) 3 (xv40_4_X3_readOrder tf ch) else (gv90_5_X3_readOrder tf ch) else upd (gv37_3_X3_readOrder tf ch) 3 (xv40_4_X3_readOrder tf ch)
abbrev po_X3_readOrder (cI cC cL : ClassId) (y1 y2 : Nat) (tf ch : Nat → Int32) (hch : ∀ j : Nat, ∃ q : Nat, q < 128 ∧ ch j = nI q) : Int32 → va_W → Prop := fun r w' => sr_X3_readOrder tf ch = r ∧ [oT y1 y2 (sw0_X3_readOrder tf ch), aC cC y2 60 ch] = w'
set_option maxHeartbeats 4000000 in
set_option maxRecDepth 100000 in
theorem ct_X3_readOrder (l : Launch) (D : va_G) (cI cC cL : ClassId) (y1 y2 : Nat) (tf ch : Nat → Int32) (hch : ∀ j : Nat, ∃ q : Nat, q < 128 ∧ ch j = nI q) : ag_MI l yX3_readOrder cX3_readOrder 1 .boolean 2 43 D cI cC cL [.ref y1] [oT y1 y2 tf, aC cC y2 60 ch] (po_X3_readOrder cI cC cL y1 y2 tf ch hch) := by
  refine ag_MI.of (plainFor_of_name (by decide)) (Nat.le_of_ble_eq_true rfl) ?_
  intro p e s m below meth c hx hb hr hlocks hml hown hmn hG hK A hN hA H locs hP hD hS ls hl
  have hl : lv_has ls 1 [(0, .ref y1)] := hl
  refine lv_aload_n hx hb dX3_readOrder_0 rfl (lv_at hl 0 rfl) ?_
  refine lv_aload_n hx hb dX3_readOrder_1 rfl (lv_at hl 0 rfl) ?_
  refine ag_callVi (As := []) (rest := [.ref y1]) hx hb hml hown hG hK hN hA hP hD hS hl (ct_X3_characterHere l D cI cC cL y1 y2 tf ch hch) fX3_characterHere k_500 ag_cut_all (q0 := 0) rfl rfl rfl rfl (Nat.le_of_ble_eq_true rfl) ⟨Nat.le_of_ble_eq_true rfl, Nat.le_of_ble_eq_true rfl⟩ ⟨Nat.zero_le _, Nat.zero_le _⟩ dX3_readOrder_2 (fun r w1 H locs hw hP hD hS => ?_)
  obtain ⟨rfl, hw⟩ := hw
  subst hw
  have hP : va_P D vwCl [oT y1 y2 tf, aC cC y2 60 ch] H := hP
  have hD : va_D A [oT y1 y2 tf, aC cC y2 60 ch] := hD
  refine ag_topn (v := xv5_1_X3_readOrder tf ch) rfl (fun x5_1 ex5_1 => ?_)
  refine ag_putX3 hx hb hG hown hK hP hD hS 0 3 rfl (by decide) k_175 (by decide) (by rw [← ex5_1]; exact (ag_chr (chH tf ch hch)).1) (by rw [← ex5_1]; exact (ag_chr (chH tf ch hch)).2) (Nat.le_of_ble_eq_true rfl) dX3_readOrder_5 (fun H locs hP hD hS => ?_)
  have hP : va_P D vwCl [oT y1 y2 (upd tf 2 x5_1), aC cC y2 60 ch] H := hP
  have hD : va_D A [oT y1 y2 (upd tf 2 x5_1), aC cC y2 60 ch] := hD
  refine lv_aload_n hx hb dX3_readOrder_8 rfl (lv_at hl 0 rfl) ?_
  refine lv_iconst (v := 0) hx hb dX3_readOrder_9 (by decide) ?_
  refine ag_putX3 hx hb hG hown hK hP hD hS 0 5 rfl (by decide) k_178 (by decide) rfl rfl (Nat.le_of_ble_eq_true rfl) dX3_readOrder_10 (fun H locs hP hD hS => ?_)
  have hP : va_P D vwCl [oT y1 y2 (upd (upd tf 2 x5_1) 4 0), aC cC y2 60 ch] H := hP
  have hD : va_D A [oT y1 y2 (upd (upd tf 2 x5_1) 4 0), aC cC y2 60 ch] := hD
  refine lv_aload_n hx hb dX3_readOrder_13 rfl (lv_at hl 0 rfl) ?_
  refine ag_getX3 (v := .int x5_1) hx hb hG hown hK hP 0 3 rfl (by decide) k_175 rfl dX3_readOrder_14 ?_
  refine ag_callSi (As := [.int x5_1]) (rest := []) hx hb hml hown hG hK hN hA hP hD hS hl (ct_X3_isKind l D cI cC cL x5_1) fX3_isKind k_504 ag_cut_0 rfl (Nat.le_of_ble_eq_true rfl) ⟨Nat.le_of_ble_eq_true rfl, Nat.le_of_ble_eq_true rfl⟩ ⟨Nat.zero_le _, Nat.zero_le _⟩ dX3_readOrder_17 (fun r w1 H locs hw hP hD hS => ?_)
  obtain ⟨rfl, hw⟩ := hw
  subst hw
  have hP : va_P D vwCl [oT y1 y2 (upd (upd tf 2 x5_1) 4 0), aC cC y2 60 ch] H := hP
  have hD : va_D A [oT y1 y2 (upd (upd tf 2 x5_1) 4 0), aC cC y2 60 ch] := hD
  refine lv_if_ne (tgt := 25) hx hb dX3_readOrder_20 (by decide) (fun c_20 => ?_) (fun c_20 => ?_)
  · refine lv_aload_n hx hb dX3_readOrder_25 rfl (lv_at hl 0 rfl) ?_
    refine lv_dup hx hb dX3_readOrder_26 rfl ?_
    refine ag_getX3 (v := .int (tf 1)) hx hb hG hown hK hP 0 2 rfl (by decide) k_173 rfl dX3_readOrder_27 ?_
    refine lv_iconst (v := 1) hx hb dX3_readOrder_30 (by decide) ?_
    refine lv_iadd hx hb dX3_readOrder_31 ?_
    refine ag_topn (v := xv32_2_X3_readOrder tf) rfl (fun x32_2 ex32_2 => ?_)
    refine ag_putX3 hx hb hG hown hK hP hD hS 0 2 rfl (by decide) k_173 (by decide) rfl rfl (Nat.le_of_ble_eq_true rfl) dX3_readOrder_32 (fun H locs hP hD hS => ?_)
    have hP : va_P D vwCl [oT y1 y2 (upd (upd (upd tf 2 x5_1) 4 0) 1 x32_2), aC cC y2 60 ch] H := hP
    have hD : va_D A [oT y1 y2 (upd (upd (upd tf 2 x5_1) 4 0) 1 x32_2), aC cC y2 60 ch] := hD
    refine lv_aload_n hx hb dX3_readOrder_35 rfl (lv_at hl 0 rfl) ?_
    refine lv_aload_n hx hb dX3_readOrder_36 rfl (lv_at hl 0 rfl) ?_
    refine ag_callVi (As := []) (rest := [.ref y1]) hx hb hml hown hG hK hN hA hP hD hS hl (ct_X3_readNumber l D cI cC cL y1 y2 (upd (upd (upd tf 2 x5_1) 4 0) 1 x32_2) ch hch) fX3_readNumber k_507 ag_cut_all (q0 := 0) rfl rfl rfl rfl (Nat.le_of_ble_eq_true rfl) ⟨Nat.le_of_ble_eq_true rfl, Nat.le_of_ble_eq_true rfl⟩ ⟨Nat.zero_le _, Nat.zero_le _⟩ dX3_readOrder_37 (fun r w1 H locs hw hP hD hS => ?_)
    obtain ⟨rfl, hw⟩ := hw
    generalize eg37_3 : sw0_X3_readNumber (upd (upd (upd tf 2 x5_1) 4 0) 1 x32_2) ch = g37_3 at hw
    replace eg37_3 : gv37_3_X3_readOrder tf ch = g37_3 := (by rw [← eg37_3, ← ex5_1, ← ex32_2]; rfl)
    subst hw
    have hP : va_P D vwCl [oT y1 y2 g37_3, aC cC y2 60 ch] H := hP
    have hD : va_D A [oT y1 y2 g37_3, aC cC y2 60 ch] := hD
    refine ag_topn (v := xv40_4_X3_readOrder tf ch) (by rw [← ex5_1, ← ex32_2]; rfl) (fun x40_4 ex40_4 => ?_)
    refine ag_putX3 hx hb hG hown hK hP hD hS 0 4 rfl (by decide) k_176 (by decide) rfl rfl (Nat.le_of_ble_eq_true rfl) dX3_readOrder_40 (fun H locs hP hD hS => ?_)
    have hP : va_P D vwCl [oT y1 y2 (upd g37_3 3 x40_4), aC cC y2 60 ch] H := hP
    have hD : va_D A [oT y1 y2 (upd g37_3 3 x40_4), aC cC y2 60 ch] := hD
    refine lv_aload_n hx hb dX3_readOrder_43 rfl (lv_at hl 0 rfl) ?_
    refine ag_getX3 (v := .int x40_4) hx hb hG hown hK hP 0 4 rfl (by decide) k_176 rfl dX3_readOrder_44 ?_
    refine lv_if_ge (tgt := 52) hx hb dX3_readOrder_47 (by decide) (fun c_47 => ?_) (fun c_47 => ?_)
    · refine lv_aload_n hx hb dX3_readOrder_52 rfl (lv_at hl 0 rfl) ?_
      refine ag_getX3 (v := .int (g37_3 2)) hx hb hG hown hK hP 0 3 rfl (by decide) k_175 rfl dX3_readOrder_53 ?_
      refine lv_bipush (v := 98) hx hb dX3_readOrder_56 (by decide) ?_
      refine lv_icmp_ne (tgt := 80) hx hb dX3_readOrder_58 (by decide) (fun c_58 => ?_) (fun c_58 => ?_)
      · refine lv_aload_n hx hb dX3_readOrder_80 rfl (lv_at hl 0 rfl) ?_
        refine ag_getX3 (v := .int (g37_3 4)) hx hb hG hown hK hP 0 5 rfl (by decide) k_178 rfl dX3_readOrder_81 ?_
        refine lv_if_lt (tgt := 100) hx hb dX3_readOrder_84 (by decide) (fun c_84 => ?_) (fun c_84 => ?_)
        · refine lv_iconst (v := 0) hx hb dX3_readOrder_100 (by decide) ?_
          revert hP; revert hD; revert hS; revert hl
          subst ex40_4
          subst eg37_3
          subst ex32_2
          subst ex5_1
          intro hl hS hD hP
          exact ag_iret [y1, y2] hx hb hr (by decide) hlocks hP hS rfl rfl ⟨(by unfold sr_X3_readOrder; rw [if_neg c_20, if_pos c_47, if_neg c_58, if_pos c_84]), (by show _ = _; rw [show sw0_X3_readOrder tf ch = upd (gv37_3_X3_readOrder tf ch) 3 (xv40_4_X3_readOrder tf ch) from (by unfold sw0_X3_readOrder; rw [if_neg c_20, if_pos c_47, if_neg c_58, if_pos c_84])])⟩ dX3_readOrder_101
        · refine lv_aload_n hx hb dX3_readOrder_87 rfl (lv_at hl 0 rfl) ?_
          refine lv_bipush (v := 59) hx hb dX3_readOrder_88 (by decide) ?_
          refine ag_callVi (As := [.int 59]) (rest := []) hx hb hml hown hG hK hN hA hP hD hS hl (ct_X3_skip l D cI cC cL y1 y2 (upd g37_3 3 x40_4) ch 59 hch) fX3_skip k_512 ag_cut_all (q0 := 0) rfl rfl rfl rfl (Nat.le_of_ble_eq_true rfl) ⟨Nat.le_of_ble_eq_true rfl, Nat.le_of_ble_eq_true rfl⟩ ⟨Nat.zero_le _, Nat.zero_le _⟩ dX3_readOrder_90 (fun r w1 H locs hw hP hD hS => ?_)
          obtain ⟨rfl, hw⟩ := hw
          generalize eg90_5 : sw0_X3_skip (upd g37_3 3 x40_4) ch 59 = g90_5 at hw
          replace eg90_5 : gv90_5_X3_readOrder tf ch = g90_5 := (by rw [← eg90_5, ← eg37_3, ← ex40_4]; rfl)
          subst hw
          have hP : va_P D vwCl [oT y1 y2 g90_5, aC cC y2 60 ch] H := hP
          have hD : va_D A [oT y1 y2 g90_5, aC cC y2 60 ch] := hD
          refine lv_if_eq (tgt := 100) hx hb dX3_readOrder_93 (by decide) (fun c_93 => ?_) (fun c_93 => ?_)
          · refine lv_iconst (v := 0) hx hb dX3_readOrder_100 (by decide) ?_
            revert hP; revert hD; revert hS; revert hl
            subst eg90_5
            subst ex40_4
            subst eg37_3
            subst ex32_2
            subst ex5_1
            intro hl hS hD hP
            exact ag_iret [y1, y2] hx hb hr (by decide) hlocks hP hS rfl rfl ⟨(by unfold sr_X3_readOrder; rw [if_neg c_20, if_pos c_47, if_neg c_58, if_neg c_84, if_pos c_93]), (by show _ = _; rw [show sw0_X3_readOrder tf ch = (gv90_5_X3_readOrder tf ch) from (by unfold sw0_X3_readOrder; rw [if_neg c_20, if_pos c_47, if_neg c_58, if_neg c_84])])⟩ dX3_readOrder_101
          · refine lv_iconst (v := 1) hx hb dX3_readOrder_96 (by decide) ?_
            refine lv_goto (tgt := 101) hx hb dX3_readOrder_97 (by decide) ?_
            revert hP; revert hD; revert hS; revert hl
            subst eg90_5
            subst ex40_4
            subst eg37_3
            subst ex32_2
            subst ex5_1
            intro hl hS hD hP
            exact ag_iret [y1, y2] hx hb hr (by decide) hlocks hP hS rfl rfl ⟨(by unfold sr_X3_readOrder; rw [if_neg c_20, if_pos c_47, if_neg c_58, if_neg c_84, if_neg c_93]), (by show _ = _; rw [show sw0_X3_readOrder tf ch = (gv90_5_X3_readOrder tf ch) from (by unfold sw0_X3_readOrder; rw [if_neg c_20, if_pos c_47, if_neg c_58, if_neg c_84])])⟩ dX3_readOrder_101
      · refine lv_aload_n hx hb dX3_readOrder_61 rfl (lv_at hl 0 rfl) ?_
        refine lv_bipush (v := 44) hx hb dX3_readOrder_62 (by decide) ?_
        refine ag_callVi (As := [.int 44]) (rest := []) hx hb hml hown hG hK hN hA hP hD hS hl (ct_X3_skip l D cI cC cL y1 y2 (upd g37_3 3 x40_4) ch 44 hch) fX3_skip k_512 ag_cut_all (q0 := 0) rfl rfl rfl rfl (Nat.le_of_ble_eq_true rfl) ⟨Nat.le_of_ble_eq_true rfl, Nat.le_of_ble_eq_true rfl⟩ ⟨Nat.zero_le _, Nat.zero_le _⟩ dX3_readOrder_64 (fun r w1 H locs hw hP hD hS => ?_)
        obtain ⟨rfl, hw⟩ := hw
        generalize eg64_6 : sw0_X3_skip (upd g37_3 3 x40_4) ch 44 = g64_6 at hw
        replace eg64_6 : gv64_6_X3_readOrder tf ch = g64_6 := (by rw [← eg64_6, ← eg37_3, ← ex40_4]; rfl)
        subst hw
        have hP : va_P D vwCl [oT y1 y2 g64_6, aC cC y2 60 ch] H := hP
        have hD : va_D A [oT y1 y2 g64_6, aC cC y2 60 ch] := hD
        refine lv_if_ne (tgt := 72) hx hb dX3_readOrder_67 (by decide) (fun c_67 => ?_) (fun c_67 => ?_)
        · refine lv_aload_n hx hb dX3_readOrder_72 rfl (lv_at hl 0 rfl) ?_
          refine lv_aload_n hx hb dX3_readOrder_73 rfl (lv_at hl 0 rfl) ?_
          refine ag_callVi (As := []) (rest := [.ref y1]) hx hb hml hown hG hK hN hA hP hD hS hl (ct_X3_readNumber l D cI cC cL y1 y2 g64_6 ch hch) fX3_readNumber k_507 ag_cut_all (q0 := 0) rfl rfl rfl rfl (Nat.le_of_ble_eq_true rfl) ⟨Nat.le_of_ble_eq_true rfl, Nat.le_of_ble_eq_true rfl⟩ ⟨Nat.zero_le _, Nat.zero_le _⟩ dX3_readOrder_74 (fun r w1 H locs hw hP hD hS => ?_)
          obtain ⟨rfl, hw⟩ := hw
          generalize eg74_7 : sw0_X3_readNumber g64_6 ch = g74_7 at hw
          replace eg74_7 : gv74_7_X3_readOrder tf ch = g74_7 := (by rw [← eg74_7, ← eg64_6]; rfl)
          subst hw
          have hP : va_P D vwCl [oT y1 y2 g74_7, aC cC y2 60 ch] H := hP
          have hD : va_D A [oT y1 y2 g74_7, aC cC y2 60 ch] := hD
          refine ag_topn (v := xv77_8_X3_readOrder tf ch) (by rw [← eg64_6]; rfl) (fun x77_8 ex77_8 => ?_)
          refine ag_putX3 hx hb hG hown hK hP hD hS 0 5 rfl (by decide) k_178 (by decide) rfl rfl (Nat.le_of_ble_eq_true rfl) dX3_readOrder_77 (fun H locs hP hD hS => ?_)
          have hP : va_P D vwCl [oT y1 y2 (upd g74_7 4 x77_8), aC cC y2 60 ch] H := hP
          have hD : va_D A [oT y1 y2 (upd g74_7 4 x77_8), aC cC y2 60 ch] := hD
          refine lv_aload_n hx hb dX3_readOrder_80 rfl (lv_at hl 0 rfl) ?_
          refine ag_getX3 (v := .int x77_8) hx hb hG hown hK hP 0 5 rfl (by decide) k_178 rfl dX3_readOrder_81 ?_
          refine lv_if_lt (tgt := 100) hx hb dX3_readOrder_84 (by decide) (fun c_84 => ?_) (fun c_84 => ?_)
          · refine lv_iconst (v := 0) hx hb dX3_readOrder_100 (by decide) ?_
            revert hP; revert hD; revert hS; revert hl
            subst ex77_8
            subst eg74_7
            subst eg64_6
            subst ex40_4
            subst eg37_3
            subst ex32_2
            subst ex5_1
            intro hl hS hD hP
            exact ag_iret [y1, y2] hx hb hr (by decide) hlocks hP hS rfl rfl ⟨(by unfold sr_X3_readOrder; rw [if_neg c_20, if_pos c_47, if_pos c_58, if_neg c_67, if_pos c_84]), (by show _ = _; rw [show sw0_X3_readOrder tf ch = upd (gv74_7_X3_readOrder tf ch) 4 (xv77_8_X3_readOrder tf ch) from (by unfold sw0_X3_readOrder; rw [if_neg c_20, if_pos c_47, if_pos c_58, if_neg c_67, if_pos c_84])])⟩ dX3_readOrder_101
          · refine lv_aload_n hx hb dX3_readOrder_87 rfl (lv_at hl 0 rfl) ?_
            refine lv_bipush (v := 59) hx hb dX3_readOrder_88 (by decide) ?_
            refine ag_callVi (As := [.int 59]) (rest := []) hx hb hml hown hG hK hN hA hP hD hS hl (ct_X3_skip l D cI cC cL y1 y2 (upd g74_7 4 x77_8) ch 59 hch) fX3_skip k_512 ag_cut_all (q0 := 0) rfl rfl rfl rfl (Nat.le_of_ble_eq_true rfl) ⟨Nat.le_of_ble_eq_true rfl, Nat.le_of_ble_eq_true rfl⟩ ⟨Nat.zero_le _, Nat.zero_le _⟩ dX3_readOrder_90 (fun r w1 H locs hw hP hD hS => ?_)
            obtain ⟨rfl, hw⟩ := hw
            generalize eg90_9 : sw0_X3_skip (upd g74_7 4 x77_8) ch 59 = g90_9 at hw
            replace eg90_9 : gv90_9_X3_readOrder tf ch = g90_9 := (by rw [← eg90_9, ← eg74_7, ← ex77_8]; rfl)
            subst hw
            have hP : va_P D vwCl [oT y1 y2 g90_9, aC cC y2 60 ch] H := hP
            have hD : va_D A [oT y1 y2 g90_9, aC cC y2 60 ch] := hD
            refine lv_if_eq (tgt := 100) hx hb dX3_readOrder_93 (by decide) (fun c_93 => ?_) (fun c_93 => ?_)
            · refine lv_iconst (v := 0) hx hb dX3_readOrder_100 (by decide) ?_
              revert hP; revert hD; revert hS; revert hl
              subst eg90_9
              subst ex77_8
              subst eg74_7
              subst eg64_6
              subst ex40_4
              subst eg37_3
              subst ex32_2
              subst ex5_1
              intro hl hS hD hP
              exact ag_iret [y1, y2] hx hb hr (by decide) hlocks hP hS rfl rfl ⟨(by unfold sr_X3_readOrder; rw [if_neg c_20, if_pos c_47, if_pos c_58, if_neg c_67, if_neg c_84, if_pos c_93]), (by show _ = _; rw [show sw0_X3_readOrder tf ch = (gv90_9_X3_readOrder tf ch) from (by unfold sw0_X3_readOrder; rw [if_neg c_20, if_pos c_47, if_pos c_58, if_neg c_67, if_neg c_84])])⟩ dX3_readOrder_101
            · refine lv_iconst (v := 1) hx hb dX3_readOrder_96 (by decide) ?_
              refine lv_goto (tgt := 101) hx hb dX3_readOrder_97 (by decide) ?_
              revert hP; revert hD; revert hS; revert hl
              subst eg90_9
              subst ex77_8
              subst eg74_7
              subst eg64_6
              subst ex40_4
              subst eg37_3
              subst ex32_2
              subst ex5_1
              intro hl hS hD hP
              exact ag_iret [y1, y2] hx hb hr (by decide) hlocks hP hS rfl rfl ⟨(by unfold sr_X3_readOrder; rw [if_neg c_20, if_pos c_47, if_pos c_58, if_neg c_67, if_neg c_84, if_neg c_93]), (by show _ = _; rw [show sw0_X3_readOrder tf ch = (gv90_9_X3_readOrder tf ch) from (by unfold sw0_X3_readOrder; rw [if_neg c_20, if_pos c_47, if_pos c_58, if_neg c_67, if_neg c_84])])⟩ dX3_readOrder_101
        · refine lv_iconst (v := 0) hx hb dX3_readOrder_70 (by decide) ?_
          revert hP; revert hD; revert hS; revert hl
          subst eg64_6
          subst ex40_4
          subst eg37_3
          subst ex32_2
          subst ex5_1
          intro hl hS hD hP
          exact ag_iret [y1, y2] hx hb hr (by decide) hlocks hP hS rfl rfl ⟨(by unfold sr_X3_readOrder; rw [if_neg c_20, if_pos c_47, if_pos c_58, if_pos c_67]), (by show _ = _; rw [show sw0_X3_readOrder tf ch = (gv64_6_X3_readOrder tf ch) from (by unfold sw0_X3_readOrder; rw [if_neg c_20, if_pos c_47, if_pos c_58, if_pos c_67])])⟩ dX3_readOrder_71
    · refine lv_iconst (v := 0) hx hb dX3_readOrder_50 (by decide) ?_
      revert hP; revert hD; revert hS; revert hl
      subst ex40_4
      subst eg37_3
      subst ex32_2
      subst ex5_1
      intro hl hS hD hP
      exact ag_iret [y1, y2] hx hb hr (by decide) hlocks hP hS rfl rfl ⟨(by unfold sr_X3_readOrder; rw [if_neg c_20, if_neg c_47]), (by show _ = _; rw [show sw0_X3_readOrder tf ch = upd (gv37_3_X3_readOrder tf ch) 3 (xv40_4_X3_readOrder tf ch) from (by unfold sw0_X3_readOrder; rw [if_neg c_20, if_neg c_47])])⟩ dX3_readOrder_51
  · refine lv_iconst (v := 0) hx hb dX3_readOrder_23 (by decide) ?_
    revert hP; revert hD; revert hS; revert hl
    subst ex5_1
    intro hl hS hD hP
    exact ag_iret [y1, y2] hx hb hr (by decide) hlocks hP hS rfl rfl ⟨(by unfold sr_X3_readOrder; rw [if_pos c_20]), (by show _ = _; rw [show sw0_X3_readOrder tf ch = upd (upd tf 2 (xv5_1_X3_readOrder tf ch)) 4 0 from (by unfold sw0_X3_readOrder; rw [if_pos c_20])])⟩ dX3_readOrder_24
