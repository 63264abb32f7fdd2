/-! the model: fault, play, share -/
theorem tq_tT {mf : Nat → Int32} (h : tq mf) : tT mf := by
  obtain ⟨S, T, h1, h2, h3, h4⟩ := h
  exact ⟨T, h2, h4⟩
theorem tT_eq {mf mg : Nat → Int32} (h : tT mf) (h1 : mg 2 = mf 2) : tT mg := by unfold tT; rw [h1]; exact h
theorem mpX_Q {mf ms mp mx md : Nat → Int32} (hc : cq mf) (hq : mq ms) (ht : tT mf) : mpQ 0 (mpX mf ms mp mx md) := by
  unfold mpX
  exact mpl_Q 60 _ (mpQ_0 ht hc hq)
theorem mpX_cq {mf ms mp mx md : Nat → Int32} (hc : cq mf) (hq : mq ms) (ht : tT mf) : cq (upd (mpX mf ms mp mx md).2.1 1 0) := by
  have h := (mpX_Q (mp := mp) (mx := mx) (md := md) hc hq ht).2.1
  generalize (mpX mf ms mp mx md).2.1 = F at h ⊢
  exact cq_eq h (upd_ne (by omega))
theorem mpX_tT {mf ms mp mx md : Nat → Int32} (hc : cq mf) (hq : mq ms) (ht : tT mf) : tT (upd (mpX mf ms mp mx md).2.1 1 0) := by
  have h := (mpX_Q (mp := mp) (mx := mx) (md := md) hc hq ht).1
  generalize (mpX mf ms mp mx md).2.1 = F at h ⊢
  exact tT_eq (tq_tT h) (upd_ne (by omega))
theorem chF_tT {mf : Nat → Int32} (h : tT mf) : tT (chF mf) := tT_eq h (chF_ne (by omega))
def gv24_1_X6_fault (mf : Nat → Int32) (ms : Nat → Int32) (mp : Nat → Int32) (mx : Nat → Int32) (md : Nat → Int32) : Nat → Int32 := upd (mpX mf ms mp mx md).2.1 1 0
def gv24_2_X6_fault (mf : Nat → Int32) (ms : Nat → Int32) (mp : Nat → Int32) (mx : Nat → Int32) (md : Nat → Int32) : Nat → Int32 := (mpX mf ms mp mx md).2.2.1
def gv24_3_X6_fault (mf : Nat → Int32) (ms : Nat → Int32) (mp : Nat → Int32) (mx : Nat → Int32) (md : Nat → Int32) : Nat → Int32 := (mpX mf ms mp mx md).2.2.2.1
def gv24_4_X6_fault (mf : Nat → Int32) (ms : Nat → Int32) (mp : Nat → Int32) (mx : Nat → Int32) (md : Nat → Int32) : Nat → Int32 := (mpX mf ms mp mx md).2.2.2.2
def sr_X6_fault (mf : Nat → Int32) (ms : Nat → Int32) (mp : Nat → Int32) (mx : Nat → Int32) (md : Nat → Int32) (p1 : Int32) : Int32 := if (sr_X6_in p1 0 2) = 0 then (-1000000001) else if ((mpX mf ms mp mx md).1) = 0 then if p1 = 0 then (gv24_1_X6_fault mf ms mp mx md) 11 else if p1 = 1 then (gv24_1_X6_fault mf ms mp mx md) 12 else (gv24_1_X6_fault mf ms mp mx md) 13 else (-1000000004)
def sw0_X6_fault (mf : Nat → Int32) (ms : Nat → Int32) (mp : Nat → Int32) (mx : Nat → Int32) (md : Nat → Int32) (p1 : Int32) : Nat → Int32 := if (sr_X6_in p1 0 2) = 0 then mf else (gv24_1_X6_fault mf ms mp mx md)
def sw2_X6_fault (mf : Nat → Int32) (ms : Nat → Int32) (mp : Nat → Int32) (mx : Nat → Int32) (md : Nat → Int32) (p1 : Int32) : Nat → Int32 := if (sr_X6_in p1 0 2) = 0 then mp else (gv24_3_X6_fault mf ms mp mx md)
def sw3_X6_fault (ms : Nat → Int32) (mh : Nat → Int32) (p1 : Int32) : Nat → Int32 := if (sr_X6_in p1 0 2) = 0 then mh else ms
def sw5_X6_fault (mf : Nat → Int32) (ms : Nat → Int32) (mp : Nat → Int32) (mx : Nat → Int32) (md : Nat → Int32) (p1 : Int32) : Nat → Int32 := if (sr_X6_in p1 0 2) = 0 then md else (gv24_4_X6_fault mf ms mp mx md)
abbrev po_X6_fault (cI cC cL : ClassId) (m0 m1 m2 m3 m4 m5 m6 : Nat) (mf ms mp mh mx md : Nat → Int32) (p1 : Int32) (hc : cq mf) (hq : mq ms) (ht : tT mf) : Int32 → va_W → Prop := fun r w' => sr_X6_fault mf ms mp mx md p1 = r ∧ [oM m0 m1 m2 m3 m4 m5 m6 (sw0_X6_fault mf ms mp mx md p1), aI cI m1 89 ms, aI cI m2 356 (sw2_X6_fault mf ms mp mx md p1), aI cI m3 89 (sw3_X6_fault ms mh p1), aI cI m5 60 mx, aI cI m6 2 (sw5_X6_fault mf ms mp mx md p1)] = w'
set_option maxHeartbeats 4000000 in
set_option maxRecDepth 100000 in
theorem ct_X6_fault (l : Launch) (D : va_G) (cI cC cL : ClassId) (m0 m1 m2 m3 m4 m5 m6 : Nat) (mf ms mp mh mx md : Nat → Int32) (p1 : Int32) (hc : cq mf) (hq : mq ms) (ht : tT mf) : ag_MI l yX6_fault cX6_fault 3 .int 10 213 D cI cC cL [.ref m0, .int p1] [oM m0 m1 m2 m3 m4 m5 m6 mf, aI cI m1 89 ms, aI cI m2 356 mp, aI cI m3 89 mh, aI cI m5 60 mx, aI cI m6 2 md] (po_X6_fault cI cC cL m0 m1 m2 m3 m4 m5 m6 mf ms mp mh mx md p1 hc hq ht) := by
  refine ag_MI.of (plainFor_of_name (by decide)) (Nat.le_of_ble_eq_true rfl) ?_
  intro p e s m below meth c hx hb hr hlocks hml hown hmn hG hK A hN hA H locs hP hD hS ls hl
  have hl : lv_has ls 3 [(0, .ref m0), (1, .int p1)] := hl
  refine lv_iload_n hx hb dX6_fault_0 rfl (lv_at hl 1 rfl) ?_
  refine lv_iconst (v := 0) hx hb dX6_fault_1 (by decide) ?_
  refine lv_iconst (v := 2) hx hb dX6_fault_2 (by decide) ?_
  refine ag_callSi (As := [.int p1, .int 0, .int 2]) (rest := []) hx hb hml hown hG hK hN hA hP hD hS hl (ct_X6_in l D cI cC cL p1 0 2) fX6_in k_607 ag_cut_0 rfl (Nat.le_of_ble_eq_true rfl) ⟨Nat.le_of_ble_eq_true rfl, Nat.le_of_ble_eq_true rfl⟩ ⟨Nat.zero_le _, Nat.zero_le _⟩ dX6_fault_3 (fun r w1 H locs hw hP hD hS => ?_)
  obtain ⟨rfl, hw⟩ := hw
  subst hw
  have hP : va_P D vwCl [oM m0 m1 m2 m3 m4 m5 m6 mf, aI cI m1 89 ms, aI cI m2 356 mp, aI cI m3 89 mh, aI cI m5 60 mx, aI cI m6 2 md] H := hP
  have hD : va_D A [oM m0 m1 m2 m3 m4 m5 m6 mf, aI cI m1 89 ms, aI cI m2 356 mp, aI cI m3 89 mh, aI cI m5 60 mx, aI cI m6 2 md] := hD
  refine lv_if_ne (tgt := 12) hx hb dX6_fault_6 (by decide) (fun c_6 => ?_) (fun c_6 => ?_)
  · refine lv_aload_n hx hb dX6_fault_12 rfl (lv_at hl 0 rfl) ?_
    refine ag_getX6 (v := .ref m1) hx hb hG hown hK hP 0 0 rfl (by decide) k_536 rfl dX6_fault_13 ?_
    refine lv_aload_n hx hb dX6_fault_16 rfl (lv_at hl 0 rfl) ?_
    refine ag_getX6 (v := .ref m3) hx hb hG hown hK hP 0 2 rfl (by decide) k_538 rfl dX6_fault_17 ?_
    refine ag_callSv (As := [.ref m1, .ref m3]) (rest := []) hx hb hml hown hG hK hN hA hP hD hS hl (ct_X6_copies l D cI cC cL m1 m3 ms mh) fX6_copies k_711 (ag_cut_2 1 [oM m0 m1 m2 m3 m4 m5 m6 mf] [aI cI m1 89 ms] [aI cI m2 356 mp] [aI cI m3 89 mh] [aI cI m5 60 mx, aI cI m6 2 md] rfl rfl rfl) rfl (Nat.le_of_ble_eq_true rfl) ⟨Nat.le_of_ble_eq_true rfl, Nat.le_of_ble_eq_true rfl⟩ ⟨Nat.zero_le _, Nat.zero_le _⟩ dX6_fault_20 (fun w1 H locs hw hP hD hS => ?_)
    have hw : _ = w1 := hw
    subst hw
    have hP : va_P D vwCl [oM m0 m1 m2 m3 m4 m5 m6 mf, aI cI m1 89 ms, aI cI m2 356 mp, aI cI m3 89 ms, aI cI m5 60 mx, aI cI m6 2 md] H := hP
    have hD : va_D A [oM m0 m1 m2 m3 m4 m5 m6 mf, aI cI m1 89 ms, aI cI m2 356 mp, aI cI m3 89 ms, aI cI m5 60 mx, aI cI m6 2 md] := hD
    refine lv_aload_n hx hb dX6_fault_23 rfl (lv_at hl 0 rfl) ?_
    refine ag_callVi (As := []) (rest := []) hx hb hml hown hG hK hN hA hP hD hS hl (ct_X6_plays l D cI cC cL m0 m1 m2 m3 m4 m5 m6 mf ms mp mx md hc hq ht) fX6_plays k_764 (ag_cut_2 3 [] [oM m0 m1 m2 m3 m4 m5 m6 mf, aI cI m1 89 ms, aI cI m2 356 mp] [aI cI m3 89 ms] [aI cI m5 60 mx, aI cI m6 2 md] [] rfl rfl rfl) (q0 := 0) rfl rfl rfl rfl (Nat.le_of_ble_eq_true rfl) ⟨Nat.le_of_ble_eq_true rfl, Nat.le_of_ble_eq_true rfl⟩ ⟨Nat.zero_le _, Nat.zero_le _⟩ dX6_fault_24 (fun r w1 H locs hw hP hD hS => ?_)
    obtain ⟨rfl, hw⟩ := hw
    generalize eg24_1 : upd (mpX mf ms mp mx md).2.1 1 0 = g24_1 at hw
    replace eg24_1 : gv24_1_X6_fault mf ms mp mx md = g24_1 := (by rw [← eg24_1]; rfl)
    generalize eg24_2 : (mpX mf ms mp mx md).2.2.1 = g24_2 at hw
    replace eg24_2 : gv24_2_X6_fault mf ms mp mx md = g24_2 := (by rw [← eg24_2]; rfl)
    generalize eg24_3 : (mpX mf ms mp mx md).2.2.2.1 = g24_3 at hw
    replace eg24_3 : gv24_3_X6_fault mf ms mp mx md = g24_3 := (by rw [← eg24_3]; rfl)
    generalize eg24_4 : (mpX mf ms mp mx md).2.2.2.2 = g24_4 at hw
    replace eg24_4 : gv24_4_X6_fault mf ms mp mx md = g24_4 := (by rw [← eg24_4]; rfl)
    subst hw
    have hP : va_P D vwCl [oM m0 m1 m2 m3 m4 m5 m6 g24_1, aI cI m1 89 g24_2, aI cI m2 356 g24_3, aI cI m3 89 ms, aI cI m5 60 mx, aI cI m6 2 g24_4] H := hP
    have hD : va_D A [oM m0 m1 m2 m3 m4 m5 m6 g24_1, aI cI m1 89 g24_2, aI cI m2 356 g24_3, aI cI m3 89 ms, aI cI m5 60 mx, aI cI m6 2 g24_4] := hD
    refine lv_istore_n (lv' := [(2, .int ((mpX mf ms mp mx md).1)), (0, .ref m0), (1, .int p1)]) hx hb dX6_fault_27 rfl hl (by decide) rfl (fun ls hl => ?_)
    refine lv_aload_n hx hb dX6_fault_28 rfl (lv_at hl 1 rfl) ?_
    refine ag_getX6 (v := .ref m3) hx hb hG hown hK hP 0 2 rfl (by decide) k_538 rfl dX6_fault_29 ?_
    refine lv_aload_n hx hb dX6_fault_32 rfl (lv_at hl 1 rfl) ?_
    refine ag_getX6 (v := .ref m1) hx hb hG hown hK hP 0 0 rfl (by decide) k_536 rfl dX6_fault_33 ?_
    refine ag_callSv (As := [.ref m3, .ref m1]) (rest := []) hx hb hml hown hG hK hN hA hP hD hS hl (ct_X6_copies l D cI cC cL m3 m1 ms g24_2) fX6_copies k_711 (ag_cut_2s 1 [oM m0 m1 m2 m3 m4 m5 m6 g24_1] [aI cI m3 89 ms] [aI cI m2 356 g24_3] [aI cI m1 89 g24_2] [aI cI m5 60 mx, aI cI m6 2 g24_4] rfl rfl rfl) rfl (Nat.le_of_ble_eq_true rfl) ⟨Nat.le_of_ble_eq_true rfl, Nat.le_of_ble_eq_true rfl⟩ ⟨Nat.zero_le _, Nat.zero_le _⟩ dX6_fault_36 (fun w1 H locs hw hP hD hS => ?_)
    have hw : _ = w1 := hw
    subst hw
    have hP : va_P D vwCl [oM m0 m1 m2 m3 m4 m5 m6 g24_1, aI cI m1 89 ms, aI cI m2 356 g24_3, aI cI m3 89 ms, aI cI m5 60 mx, aI cI m6 2 g24_4] H := hP
    have hD : va_D A [oM m0 m1 m2 m3 m4 m5 m6 g24_1, aI cI m1 89 ms, aI cI m2 356 g24_3, aI cI m3 89 ms, aI cI m5 60 mx, aI cI m6 2 g24_4] := hD
    refine lv_iload_n hx hb dX6_fault_39 rfl (lv_at hl 0 rfl) ?_
    refine lv_if_eq (tgt := 48) hx hb dX6_fault_40 (by decide) (fun c_40 => ?_) (fun c_40 => ?_)
    · refine lv_iload_n hx hb dX6_fault_48 rfl (lv_at hl 2 rfl) ?_
      refine lv_if_ne (tgt := 59) hx hb dX6_fault_49 (by decide) (fun c_49 => ?_) (fun c_49 => ?_)
      · refine lv_iload_n hx hb dX6_fault_59 rfl (lv_at hl 2 rfl) ?_
        refine lv_iconst (v := 1) hx hb dX6_fault_60 (by decide) ?_
        refine lv_icmp_ne (tgt := 71) hx hb dX6_fault_61 (by decide) (fun c_61 => ?_) (fun c_61 => ?_)
        · refine lv_aload_n hx hb dX6_fault_71 rfl (lv_at hl 1 rfl) ?_
          refine ag_getX6 (v := .int (g24_1 13)) hx hb hG hown hK hP 0 18 rfl (by decide) k_554 rfl dX6_fault_72 ?_
          revert hP; revert hD; revert hS; revert hl
          subst eg24_4
          subst eg24_3
          subst eg24_2
          subst eg24_1
          intro hl hS hD hP
          exact ag_iret [m0, m1, m2, m3, m5, m6] hx hb hr rfl hlocks hP hS rfl rfl ⟨(by unfold sr_X6_fault; rw [if_neg c_6, if_pos c_40, if_neg c_49, if_neg c_61]), (by show _ = _; rw [show sw0_X6_fault mf ms mp mx md p1 = (gv24_1_X6_fault mf ms mp mx md) from (by unfold sw0_X6_fault; rw [if_neg c_6]), show sw2_X6_fault mf ms mp mx md p1 = (gv24_3_X6_fault mf ms mp mx md) from (by unfold sw2_X6_fault; rw [if_neg c_6]), show sw3_X6_fault ms mh p1 = ms from (by unfold sw3_X6_fault; rw [if_neg c_6]), show sw5_X6_fault mf ms mp mx md p1 = (gv24_4_X6_fault mf ms mp mx md) from (by unfold sw5_X6_fault; rw [if_neg c_6])])⟩ dX6_fault_75
        · refine lv_aload_n hx hb dX6_fault_64 rfl (lv_at hl 1 rfl) ?_
          refine ag_getX6 (v := .int (g24_1 12)) hx hb hG hown hK hP 0 17 rfl (by decide) k_553 rfl dX6_fault_65 ?_
          refine lv_goto (tgt := 75) hx hb dX6_fault_68 (by decide) ?_
          revert hP; revert hD; revert hS; revert hl
          subst eg24_4
          subst eg24_3
          subst eg24_2
          subst eg24_1
          intro hl hS hD hP
          exact ag_iret [m0, m1, m2, m3, m5, m6] hx hb hr rfl hlocks hP hS rfl rfl ⟨(by unfold sr_X6_fault; rw [if_neg c_6, if_pos c_40, if_neg c_49, if_pos c_61]), (by show _ = _; rw [show sw0_X6_fault mf ms mp mx md p1 = (gv24_1_X6_fault mf ms mp mx md) from (by unfold sw0_X6_fault; rw [if_neg c_6]), show sw2_X6_fault mf ms mp mx md p1 = (gv24_3_X6_fault mf ms mp mx md) from (by unfold sw2_X6_fault; rw [if_neg c_6]), show sw3_X6_fault ms mh p1 = ms from (by unfold sw3_X6_fault; rw [if_neg c_6]), show sw5_X6_fault mf ms mp mx md p1 = (gv24_4_X6_fault mf ms mp mx md) from (by unfold sw5_X6_fault; rw [if_neg c_6])])⟩ dX6_fault_75
      · refine lv_aload_n hx hb dX6_fault_52 rfl (lv_at hl 1 rfl) ?_
        refine ag_getX6 (v := .int (g24_1 11)) hx hb hG hown hK hP 0 16 rfl (by decide) k_552 rfl dX6_fault_53 ?_
        refine lv_goto (tgt := 75) hx hb dX6_fault_56 (by decide) ?_
        revert hP; revert hD; revert hS; revert hl
        subst eg24_4
        subst eg24_3
        subst eg24_2
        subst eg24_1
        intro hl hS hD hP
        exact ag_iret [m0, m1, m2, m3, m5, m6] hx hb hr rfl hlocks hP hS rfl rfl ⟨(by unfold sr_X6_fault; rw [if_neg c_6, if_pos c_40, if_pos c_49]), (by show _ = _; rw [show sw0_X6_fault mf ms mp mx md p1 = (gv24_1_X6_fault mf ms mp mx md) from (by unfold sw0_X6_fault; rw [if_neg c_6]), show sw2_X6_fault mf ms mp mx md p1 = (gv24_3_X6_fault mf ms mp mx md) from (by unfold sw2_X6_fault; rw [if_neg c_6]), show sw3_X6_fault ms mh p1 = ms from (by unfold sw3_X6_fault; rw [if_neg c_6]), show sw5_X6_fault mf ms mp mx md p1 = (gv24_4_X6_fault mf ms mp mx md) from (by unfold sw5_X6_fault; rw [if_neg c_6])])⟩ dX6_fault_75
    · refine lv_ldc (v := (-1000000004)) hx hb hown (hG _ k_678) dX6_fault_43 ?_
      refine lv_goto (tgt := 75) hx hb dX6_fault_45 (by decide) ?_
      revert hP; revert hD; revert hS; revert hl
      subst eg24_4
      subst eg24_3
      subst eg24_2
      subst eg24_1
      intro hl hS hD hP
      exact ag_iret [m0, m1, m2, m3, m5, m6] hx hb hr rfl hlocks hP hS rfl rfl ⟨(by unfold sr_X6_fault; rw [if_neg c_6, if_neg c_40]), (by show _ = _; rw [show sw0_X6_fault mf ms mp mx md p1 = (gv24_1_X6_fault mf ms mp mx md) from (by unfold sw0_X6_fault; rw [if_neg c_6]), show sw2_X6_fault mf ms mp mx md p1 = (gv24_3_X6_fault mf ms mp mx md) from (by unfold sw2_X6_fault; rw [if_neg c_6]), show sw3_X6_fault ms mh p1 = ms from (by unfold sw3_X6_fault; rw [if_neg c_6]), show sw5_X6_fault mf ms mp mx md p1 = (gv24_4_X6_fault mf ms mp mx md) from (by unfold sw5_X6_fault; rw [if_neg c_6])])⟩ dX6_fault_75
  · refine lv_ldc (v := (-1000000001)) hx hb hown (hG _ k_618) dX6_fault_9 ?_
    exact ag_iret [m0, m1, m2, m3, m5, m6] hx hb hr rfl hlocks hP hS rfl rfl ⟨(by unfold sr_X6_fault; rw [if_pos c_6]), (by show _ = _; rw [show sw0_X6_fault mf ms mp mx md p1 = mf from (by unfold sw0_X6_fault; rw [if_pos c_6]), show sw2_X6_fault mf ms mp mx md p1 = mp from (by unfold sw2_X6_fault; rw [if_pos c_6]), show sw3_X6_fault ms mh p1 = mh from (by unfold sw3_X6_fault; rw [if_pos c_6]), show sw5_X6_fault mf ms mp mx md p1 = md from (by unfold sw5_X6_fault; rw [if_pos c_6])])⟩ dX6_fault_11
def gv12_1_X6_play (mf : Nat → Int32) (ms : Nat → Int32) (mp : Nat → Int32) (mx : Nat → Int32) (md : Nat → Int32) : Nat → Int32 := upd (mpX mf ms mp mx md).2.1 1 0
def gv12_2_X6_play (mf : Nat → Int32) (ms : Nat → Int32) (mp : Nat → Int32) (mx : Nat → Int32) (md : Nat → Int32) : Nat → Int32 := (mpX mf ms mp mx md).2.2.1
def gv12_3_X6_play (mf : Nat → Int32) (ms : Nat → Int32) (mp : Nat → Int32) (mx : Nat → Int32) (md : Nat → Int32) : Nat → Int32 := (mpX mf ms mp mx md).2.2.2.1
def gv12_4_X6_play (mf : Nat → Int32) (ms : Nat → Int32) (mp : Nat → Int32) (mx : Nat → Int32) (md : Nat → Int32) : Nat → Int32 := (mpX mf ms mp mx md).2.2.2.2
def gv35_5_X6_play (mf : Nat → Int32) (ms : Nat → Int32) (mp : Nat → Int32) (mx : Nat → Int32) (md : Nat → Int32) : Nat → Int32 := chF (gv12_1_X6_play mf ms mp mx md)
def gv35_6_X6_play (mf : Nat → Int32) (ms : Nat → Int32) (mp : Nat → Int32) (mx : Nat → Int32) (md : Nat → Int32) : Nat → Int32 := chP (gv12_1_X6_play mf ms mp mx md) ms (gv12_3_X6_play mf ms mp mx md)
def gv39_7_X6_play (mf : Nat → Int32) (ms : Nat → Int32) (mp : Nat → Int32) (mx : Nat → Int32) (md : Nat → Int32) : Nat → Int32 := upd (mpX (gv35_5_X6_play mf ms mp mx md) ms (gv35_6_X6_play mf ms mp mx md) mx (gv12_4_X6_play mf ms mp mx md)).2.1 1 0
def gv39_8_X6_play (mf : Nat → Int32) (ms : Nat → Int32) (mp : Nat → Int32) (mx : Nat → Int32) (md : Nat → Int32) : Nat → Int32 := (mpX (gv35_5_X6_play mf ms mp mx md) ms (gv35_6_X6_play mf ms mp mx md) mx (gv12_4_X6_play mf ms mp mx md)).2.2.1
def gv39_9_X6_play (mf : Nat → Int32) (ms : Nat → Int32) (mp : Nat → Int32) (mx : Nat → Int32) (md : Nat → Int32) : Nat → Int32 := (mpX (gv35_5_X6_play mf ms mp mx md) ms (gv35_6_X6_play mf ms mp mx md) mx (gv12_4_X6_play mf ms mp mx md)).2.2.2.1
def gv39_10_X6_play (mf : Nat → Int32) (ms : Nat → Int32) (mp : Nat → Int32) (mx : Nat → Int32) (md : Nat → Int32) : Nat → Int32 := (mpX (gv35_5_X6_play mf ms mp mx md) ms (gv35_6_X6_play mf ms mp mx md) mx (gv12_4_X6_play mf ms mp mx md)).2.2.2.2
def sr_X6_play (mf : Nat → Int32) (ms : Nat → Int32) (mp : Nat → Int32) (mx : Nat → Int32) (md : Nat → Int32) : Int32 := if ((mpX mf ms mp mx md).1) = 0 then (-1000000002) else if ((mpX (gv35_5_X6_play mf ms mp mx md) ms (gv35_6_X6_play mf ms mp mx md) mx (gv12_4_X6_play mf ms mp mx md)).1) = 0 then (-1000000004) else (gv39_7_X6_play mf ms mp mx md) 14
def sw0_X6_play (mf : Nat → Int32) (ms : Nat → Int32) (mp : Nat → Int32) (mx : Nat → Int32) (md : Nat → Int32) : Nat → Int32 := if ((mpX mf ms mp mx md).1) = 0 then (gv12_1_X6_play mf ms mp mx md) else (gv39_7_X6_play mf ms mp mx md)
def sw1_X6_play (mf : Nat → Int32) (ms : Nat → Int32) (mp : Nat → Int32) (mx : Nat → Int32) (md : Nat → Int32) : Nat → Int32 := if ((mpX mf ms mp mx md).1) = 0 then ms else (gv39_8_X6_play mf ms mp mx md)
def sw2_X6_play (mf : Nat → Int32) (ms : Nat → Int32) (mp : Nat → Int32) (mx : Nat → Int32) (md : Nat → Int32) : Nat → Int32 := if ((mpX mf ms mp mx md).1) = 0 then (gv12_3_X6_play mf ms mp mx md) else (gv39_9_X6_play mf ms mp mx md)
def sw3_X6_play (ms : Nat → Int32) : Nat → Int32 := ms
def sw5_X6_play (mf : Nat → Int32) (ms : Nat → Int32) (mp : Nat → Int32) (mx : Nat → Int32) (md : Nat → Int32) : Nat → Int32 := if ((mpX mf ms mp mx md).1) = 0 then (gv12_4_X6_play mf ms mp mx md) else (gv39_10_X6_play mf ms mp mx md)
abbrev po_X6_play (cI cC cL : ClassId) (m0 m1 m2 m3 m4 m5 m6 : Nat) (mf ms mp mh mx md : Nat → Int32) (hc : cq mf) (hq : mq ms) (ht : tT mf) : Int32 → va_W → Prop := fun r w' => sr_X6_play mf ms mp mx md = r ∧ [oM m0 m1 m2 m3 m4 m5 m6 (sw0_X6_play mf ms mp mx md), aI cI m1 89 (sw1_X6_play mf ms mp mx md), aI cI m2 356 (sw2_X6_play mf ms mp mx md), aI cI m3 89 (sw3_X6_play ms), aI cI m5 60 mx, aI cI m6 2 (sw5_X6_play mf ms mp mx md)] = w'
set_option maxHeartbeats 4000000 in
set_option maxRecDepth 100000 in
theorem ct_X6_play (l : Launch) (D : va_G) (cI cC cL : ClassId) (m0 m1 m2 m3 m4 m5 m6 : Nat) (mf ms mp mh mx md : Nat → Int32) (hc : cq mf) (hq : mq ms) (ht : tT mf) : ag_MI l yX6_play cX6_play 2 .int 10 213 D cI cC cL [.ref m0] [oM m0 m1 m2 m3 m4 m5 m6 mf, aI cI m1 89 ms, aI cI m2 356 mp, aI cI m3 89 mh, aI cI m5 60 mx, aI cI m6 2 md] (po_X6_play cI cC cL m0 m1 m2 m3 m4 m5 m6 mf ms mp mh mx md hc hq ht) := by
  refine ag_MI.of (plainFor_of_name (by decide)) (Nat.le_of_ble_eq_true rfl) ?_
  intro p e s m below meth c hx hb hr hlocks hml hown hmn hG hK A hN hA H locs hP hD hS ls hl
  have hl : lv_has ls 2 [(0, .ref m0)] := hl
  refine lv_aload_n hx hb dX6_play_0 rfl (lv_at hl 0 rfl) ?_
  refine ag_getX6 (v := .ref m1) hx hb hG hown hK hP 0 0 rfl (by decide) k_536 rfl dX6_play_1 ?_
  refine lv_aload_n hx hb dX6_play_4 rfl (lv_at hl 0 rfl) ?_
  refine ag_getX6 (v := .ref m3) hx hb hG hown hK hP 0 2 rfl (by decide) k_538 rfl dX6_play_5 ?_
  refine ag_callSv (As := [.ref m1, .ref m3]) (rest := []) hx hb hml hown hG hK hN hA hP hD hS hl (ct_X6_copies l D cI cC cL m1 m3 ms mh) fX6_copies k_711 (ag_cut_2 1 [oM m0 m1 m2 m3 m4 m5 m6 mf] [aI cI m1 89 ms] [aI cI m2 356 mp] [aI cI m3 89 mh] [aI cI m5 60 mx, aI cI m6 2 md] rfl rfl rfl) rfl (Nat.le_of_ble_eq_true rfl) ⟨Nat.le_of_ble_eq_true rfl, Nat.le_of_ble_eq_true rfl⟩ ⟨Nat.zero_le _, Nat.zero_le _⟩ dX6_play_8 (fun w1 H locs hw hP hD hS => ?_)
  have hw : _ = w1 := hw
  subst hw
  have hP : va_P D vwCl [oM m0 m1 m2 m3 m4 m5 m6 mf, aI cI m1 89 ms, aI cI m2 356 mp, aI cI m3 89 ms, aI cI m5 60 mx, aI cI m6 2 md] H := hP
  have hD : va_D A [oM m0 m1 m2 m3 m4 m5 m6 mf, aI cI m1 89 ms, aI cI m2 356 mp, aI cI m3 89 ms, aI cI m5 60 mx, aI cI m6 2 md] := hD
  refine lv_aload_n hx hb dX6_play_11 rfl (lv_at hl 0 rfl) ?_
  refine ag_callVi (As := []) (rest := []) hx hb hml hown hG hK hN hA hP hD hS hl (ct_X6_plays l D cI cC cL m0 m1 m2 m3 m4 m5 m6 mf ms mp mx md hc hq ht) fX6_plays k_764 (ag_cut_2 3 [] [oM m0 m1 m2 m3 m4 m5 m6 mf, aI cI m1 89 ms, aI cI m2 356 mp] [aI cI m3 89 ms] [aI cI m5 60 mx, aI cI m6 2 md] [] rfl rfl rfl) (q0 := 0) rfl rfl rfl rfl (Nat.le_of_ble_eq_true rfl) ⟨Nat.le_of_ble_eq_true rfl, Nat.le_of_ble_eq_true rfl⟩ ⟨Nat.zero_le _, Nat.zero_le _⟩ dX6_play_12 (fun r w1 H locs hw hP hD hS => ?_)
  obtain ⟨rfl, hw⟩ := hw
  generalize eg12_1 : upd (mpX mf ms mp mx md).2.1 1 0 = g12_1 at hw
  replace eg12_1 : gv12_1_X6_play mf ms mp mx md = g12_1 := (by rw [← eg12_1]; rfl)
  generalize eg12_2 : (mpX mf ms mp mx md).2.2.1 = g12_2 at hw
  replace eg12_2 : gv12_2_X6_play mf ms mp mx md = g12_2 := (by rw [← eg12_2]; rfl)
  generalize eg12_3 : (mpX mf ms mp mx md).2.2.2.1 = g12_3 at hw
  replace eg12_3 : gv12_3_X6_play mf ms mp mx md = g12_3 := (by rw [← eg12_3]; rfl)
  generalize eg12_4 : (mpX mf ms mp mx md).2.2.2.2 = g12_4 at hw
  replace eg12_4 : gv12_4_X6_play mf ms mp mx md = g12_4 := (by rw [← eg12_4]; rfl)
  subst hw
  have hP : va_P D vwCl [oM m0 m1 m2 m3 m4 m5 m6 g12_1, aI cI m1 89 g12_2, aI cI m2 356 g12_3, aI cI m3 89 ms, aI cI m5 60 mx, aI cI m6 2 g12_4] H := hP
  have hD : va_D A [oM m0 m1 m2 m3 m4 m5 m6 g12_1, aI cI m1 89 g12_2, aI cI m2 356 g12_3, aI cI m3 89 ms, aI cI m5 60 mx, aI cI m6 2 g12_4] := hD
  refine lv_istore_n (lv' := [(1, .int ((mpX mf ms mp mx md).1)), (0, .ref m0)]) hx hb dX6_play_15 rfl hl (by decide) rfl (fun ls hl => ?_)
  refine lv_aload_n hx hb dX6_play_16 rfl (lv_at hl 1 rfl) ?_
  refine ag_getX6 (v := .ref m3) hx hb hG hown hK hP 0 2 rfl (by decide) k_538 rfl dX6_play_17 ?_
  refine lv_aload_n hx hb dX6_play_20 rfl (lv_at hl 1 rfl) ?_
  refine ag_getX6 (v := .ref m1) hx hb hG hown hK hP 0 0 rfl (by decide) k_536 rfl dX6_play_21 ?_
  refine ag_callSv (As := [.ref m3, .ref m1]) (rest := []) hx hb hml hown hG hK hN hA hP hD hS hl (ct_X6_copies l D cI cC cL m3 m1 ms g12_2) fX6_copies k_711 (ag_cut_2s 1 [oM m0 m1 m2 m3 m4 m5 m6 g12_1] [aI cI m3 89 ms] [aI cI m2 356 g12_3] [aI cI m1 89 g12_2] [aI cI m5 60 mx, aI cI m6 2 g12_4] rfl rfl rfl) rfl (Nat.le_of_ble_eq_true rfl) ⟨Nat.le_of_ble_eq_true rfl, Nat.le_of_ble_eq_true rfl⟩ ⟨Nat.zero_le _, Nat.zero_le _⟩ dX6_play_24 (fun w1 H locs hw hP hD hS => ?_)
  have hw : _ = w1 := hw
  subst hw
  have hP : va_P D vwCl [oM m0 m1 m2 m3 m4 m5 m6 g12_1, aI cI m1 89 ms, aI cI m2 356 g12_3, aI cI m3 89 ms, aI cI m5 60 mx, aI cI m6 2 g12_4] H := hP
  have hD : va_D A [oM m0 m1 m2 m3 m4 m5 m6 g12_1, aI cI m1 89 ms, aI cI m2 356 g12_3, aI cI m3 89 ms, aI cI m5 60 mx, aI cI m6 2 g12_4] := hD
  refine lv_iload_n hx hb dX6_play_27 rfl (lv_at hl 0 rfl) ?_
  refine lv_if_ne (tgt := 34) hx hb dX6_play_28 (by decide) (fun c_28 => ?_) (fun c_28 => ?_)
  · refine lv_aload_n hx hb dX6_play_34 rfl (lv_at hl 1 rfl) ?_
    refine ag_callVv (As := []) (rest := []) hx hb hml hown hG hK hN hA hP hD hS hl (ct_X6_changes l D cI cC cL m0 m1 m2 m3 m4 m5 m6 g12_1 ms g12_3 (by rw [← eg12_1]; unfold gv12_1_X6_play; exact mpX_cq hc hq ht)) fX6_changes k_614 (ag_cut_1 [] [aI cI m3 89 ms, aI cI m5 60 mx, aI cI m6 2 g12_4] rfl) (q0 := 0) rfl rfl rfl rfl (Nat.le_of_ble_eq_true rfl) ⟨Nat.le_of_ble_eq_true rfl, Nat.le_of_ble_eq_true rfl⟩ ⟨Nat.zero_le _, Nat.zero_le _⟩ dX6_play_35 (fun w1 H locs hw hP hD hS => ?_)
    have hw : _ = w1 := hw
    generalize eg35_5 : chF g12_1 = g35_5 at hw
    replace eg35_5 : gv35_5_X6_play mf ms mp mx md = g35_5 := (by rw [← eg35_5, ← eg12_1]; rfl)
    generalize eg35_6 : chP g12_1 ms g12_3 = g35_6 at hw
    replace eg35_6 : gv35_6_X6_play mf ms mp mx md = g35_6 := (by rw [← eg35_6, ← eg12_1, ← eg12_3]; rfl)
    subst hw
    have hP : va_P D vwCl [oM m0 m1 m2 m3 m4 m5 m6 g35_5, aI cI m1 89 ms, aI cI m2 356 g35_6, aI cI m3 89 ms, aI cI m5 60 mx, aI cI m6 2 g12_4] H := hP
    have hD : va_D A [oM m0 m1 m2 m3 m4 m5 m6 g35_5, aI cI m1 89 ms, aI cI m2 356 g35_6, aI cI m3 89 ms, aI cI m5 60 mx, aI cI m6 2 g12_4] := hD
    refine lv_aload_n hx hb dX6_play_38 rfl (lv_at hl 1 rfl) ?_
    refine ag_callVi (As := []) (rest := []) hx hb hml hown hG hK hN hA hP hD hS hl (ct_X6_plays l D cI cC cL m0 m1 m2 m3 m4 m5 m6 g35_5 ms g35_6 mx g12_4 (by rw [← eg35_5]; unfold gv35_5_X6_play gv12_1_X6_play; exact chF_cq (mpX_cq hc hq ht)) hq (by rw [← eg35_5]; unfold gv35_5_X6_play gv12_1_X6_play; exact chF_tT (mpX_tT hc hq ht))) fX6_plays k_764 (ag_cut_2 3 [] [oM m0 m1 m2 m3 m4 m5 m6 g35_5, aI cI m1 89 ms, aI cI m2 356 g35_6] [aI cI m3 89 ms] [aI cI m5 60 mx, aI cI m6 2 g12_4] [] rfl rfl rfl) (q0 := 0) rfl rfl rfl rfl (Nat.le_of_ble_eq_true rfl) ⟨Nat.le_of_ble_eq_true rfl, Nat.le_of_ble_eq_true rfl⟩ ⟨Nat.zero_le _, Nat.zero_le _⟩ dX6_play_39 (fun r w1 H locs hw hP hD hS => ?_)
    obtain ⟨rfl, hw⟩ := hw
    generalize eg39_7 : upd (mpX g35_5 ms g35_6 mx g12_4).2.1 1 0 = g39_7 at hw
    replace eg39_7 : gv39_7_X6_play mf ms mp mx md = g39_7 := (by rw [← eg39_7, ← eg12_4, ← eg35_5, ← eg35_6]; rfl)
    generalize eg39_8 : (mpX g35_5 ms g35_6 mx g12_4).2.2.1 = g39_8 at hw
    replace eg39_8 : gv39_8_X6_play mf ms mp mx md = g39_8 := (by rw [← eg39_8, ← eg12_4, ← eg35_5, ← eg35_6]; rfl)
    generalize eg39_9 : (mpX g35_5 ms g35_6 mx g12_4).2.2.2.1 = g39_9 at hw
    replace eg39_9 : gv39_9_X6_play mf ms mp mx md = g39_9 := (by rw [← eg39_9, ← eg12_4, ← eg35_5, ← eg35_6]; rfl)
    generalize eg39_10 : (mpX g35_5 ms g35_6 mx g12_4).2.2.2.2 = g39_10 at hw
    replace eg39_10 : gv39_10_X6_play mf ms mp mx md = g39_10 := (by rw [← eg39_10, ← eg12_4, ← eg35_5, ← eg35_6]; rfl)
    subst hw
    have hP : va_P D vwCl [oM m0 m1 m2 m3 m4 m5 m6 g39_7, aI cI m1 89 g39_8, aI cI m2 356 g39_9, aI cI m3 89 ms, aI cI m5 60 mx, aI cI m6 2 g39_10] H := hP
    have hD : va_D A [oM m0 m1 m2 m3 m4 m5 m6 g39_7, aI cI m1 89 g39_8, aI cI m2 356 g39_9, aI cI m3 89 ms, aI cI m5 60 mx, aI cI m6 2 g39_10] := hD
    refine lv_if_eq (tgt := 52) hx hb dX6_play_42 (by decide) (fun c_42 => ?_) (fun c_42 => ?_)
    · refine lv_ldc (v := (-1000000004)) hx hb hown (hG _ k_678) dX6_play_52 ?_
      revert hP; revert hD; revert hS; revert hl
      subst eg39_10
      subst eg39_9
      subst eg39_8
      subst eg39_7
      subst eg35_6
      subst eg35_5
      subst eg12_4
      subst eg12_3
      subst eg12_2
      subst eg12_1
      intro hl hS hD hP
      exact ag_iret [m0, m1, m2, m3, m5, m6] hx hb hr rfl hlocks hP hS rfl rfl ⟨(by unfold sr_X6_play; rw [if_neg c_28, if_pos c_42]), (by show _ = _; rw [show sw0_X6_play mf ms mp mx md = (gv39_7_X6_play mf ms mp mx md) from (by unfold sw0_X6_play; rw [if_neg c_28]), show sw1_X6_play mf ms mp mx md = (gv39_8_X6_play mf ms mp mx md) from (by unfold sw1_X6_play; rw [if_neg c_28]), show sw2_X6_play mf ms mp mx md = (gv39_9_X6_play mf ms mp mx md) from (by unfold sw2_X6_play; rw [if_neg c_28]), show sw3_X6_play ms = ms from rfl, show sw5_X6_play mf ms mp mx md = (gv39_10_X6_play mf ms mp mx md) from (by unfold sw5_X6_play; rw [if_neg c_28])])⟩ dX6_play_54
    · refine lv_aload_n hx hb dX6_play_45 rfl (lv_at hl 1 rfl) ?_
      refine ag_getX6 (v := .int (g39_7 14)) hx hb hG hown hK hP 0 19 rfl (by decide) k_555 rfl dX6_play_46 ?_
      refine lv_goto (tgt := 54) hx hb dX6_play_49 (by decide) ?_
      revert hP; revert hD; revert hS; revert hl
      subst eg39_10
      subst eg39_9
      subst eg39_8
      subst eg39_7
      subst eg35_6
      subst eg35_5
      subst eg12_4
      subst eg12_3
      subst eg12_2
      subst eg12_1
      intro hl hS hD hP
      exact ag_iret [m0, m1, m2, m3, m5, m6] hx hb hr rfl hlocks hP hS rfl rfl ⟨(by unfold sr_X6_play; rw [if_neg c_28, if_neg c_42]), (by show _ = _; rw [show sw0_X6_play mf ms mp mx md = (gv39_7_X6_play mf ms mp mx md) from (by unfold sw0_X6_play; rw [if_neg c_28]), show sw1_X6_play mf ms mp mx md = (gv39_8_X6_play mf ms mp mx md) from (by unfold sw1_X6_play; rw [if_neg c_28]), show sw2_X6_play mf ms mp mx md = (gv39_9_X6_play mf ms mp mx md) from (by unfold sw2_X6_play; rw [if_neg c_28]), show sw3_X6_play ms = ms from rfl, show sw5_X6_play mf ms mp mx md = (gv39_10_X6_play mf ms mp mx md) from (by unfold sw5_X6_play; rw [if_neg c_28])])⟩ dX6_play_54
  · refine lv_ldc (v := (-1000000002)) hx hb hown (hG _ k_683) dX6_play_31 ?_
    revert hP; revert hD; revert hS; revert hl
    subst eg12_4
    subst eg12_3
    subst eg12_2
    subst eg12_1
    intro hl hS hD hP
    exact ag_iret [m0, m1, m2, m3, m5, m6] hx hb hr rfl hlocks hP hS rfl rfl ⟨(by unfold sr_X6_play; rw [if_pos c_28]), (by show _ = _; rw [show sw0_X6_play mf ms mp mx md = (gv12_1_X6_play mf ms mp mx md) from (by unfold sw0_X6_play; rw [if_pos c_28]), show sw1_X6_play mf ms mp mx md = ms from (by unfold sw1_X6_play; rw [if_pos c_28]), show sw2_X6_play mf ms mp mx md = (gv12_3_X6_play mf ms mp mx md) from (by unfold sw2_X6_play; rw [if_pos c_28]), show sw3_X6_play ms = ms from rfl, show sw5_X6_play mf ms mp mx md = (gv12_4_X6_play mf ms mp mx md) from (by unfold sw5_X6_play; rw [if_pos c_28])])⟩ dX6_play_33
def sr_X6_share (ms : Nat → Int32) (E : Nat) (T : Nat) : Int32 := if (ms 11) = 0 then (-1000000004) else nI (E * 8388608 + T)
abbrev po_X6_share (cI cC cL : ClassId) (m0 m1 m2 m3 m4 m5 m6 : Nat) (mf ms : Nat → Int32) (E : Nat) (T : Nat) (hv : ¬ ms 11 = 0 → fbv E T (FP.fdiv (FP.i2f (ms 12)) (FP.i2f (ms 11)))) (hw2 : ms 11 = 0 → vf_n32 (FP.fdiv (FP.i2f (ms 12)) (FP.i2f 1))) : Int32 → va_W → Prop := fun r w' => sr_X6_share ms E T = r ∧ [oM m0 m1 m2 m3 m4 m5 m6 mf, aI cI m1 89 ms] = w'
set_option maxHeartbeats 4000000 in
set_option maxRecDepth 100000 in
theorem ct_X6_share (l : Launch) (D : va_G) (cI cC cL : ClassId) (m0 m1 m2 m3 m4 m5 m6 : Nat) (mf ms : Nat → Int32) (E : Nat) (T : Nat) (hv : ¬ ms 11 = 0 → fbv E T (FP.fdiv (FP.i2f (ms 12)) (FP.i2f (ms 11)))) (hw2 : ms 11 = 0 → vf_n32 (FP.fdiv (FP.i2f (ms 12)) (FP.i2f 1))) : ag_MI l yX6_share cX6_share 2 .int 2 40 D cI cC cL [.ref m0] [oM m0 m1 m2 m3 m4 m5 m6 mf, aI cI m1 89 ms] (po_X6_share cI cC cL m0 m1 m2 m3 m4 m5 m6 mf ms E T hv hw2) := by
  refine ag_MI.of (plainFor_of_name (by decide)) (Nat.le_of_ble_eq_true rfl) ?_
  intro p e s m below meth c hx hb hr hlocks hml hown hmn hG hK A hN hA H locs hP hD hS ls hl
  have hl : lv_has ls 2 [(0, .ref m0)] := hl
  refine lv_aload_n hx hb dX6_share_0 rfl (lv_at hl 0 rfl) ?_
  refine ag_getX6 (v := .ref m1) hx hb hG hown hK hP 0 0 rfl (by decide) k_536 rfl dX6_share_1 ?_
  refine lv_bipush (v := 12) hx hb dX6_share_4 (by decide) ?_
  refine ag_ild (k := 12) (v := ms 12) hx hb hK hP 1 rfl rfl (Nat.le_of_ble_eq_true rfl) (Nat.le_of_ble_eq_true rfl) rfl dX6_share_6 ?_
  refine lv_i2f hx hb dX6_share_7 ?_
  refine lv_aload_n hx hb dX6_share_8 rfl (lv_at hl 0 rfl) ?_
  refine ag_getX6 (v := .ref m1) hx hb hG hown hK hP 0 0 rfl (by decide) k_536 rfl dX6_share_9 ?_
  refine lv_bipush (v := 11) hx hb dX6_share_12 (by decide) ?_
  refine ag_ild (k := 11) (v := ms 11) hx hb hK hP 1 rfl rfl (Nat.le_of_ble_eq_true rfl) (Nat.le_of_ble_eq_true rfl) rfl dX6_share_14 ?_
  refine lv_if_ne (tgt := 22) hx hb dX6_share_15 (by decide) (fun c_15 => ?_) (fun c_15 => ?_)
  · refine lv_aload_n hx hb dX6_share_22 rfl (lv_at hl 0 rfl) ?_
    refine ag_getX6 (v := .ref m1) hx hb hG hown hK hP 0 0 rfl (by decide) k_536 rfl dX6_share_23 ?_
    refine lv_bipush (v := 11) hx hb dX6_share_26 (by decide) ?_
    refine ag_ild (k := 11) (v := ms 11) hx hb hK hP 1 rfl rfl (Nat.le_of_ble_eq_true rfl) (Nat.le_of_ble_eq_true rfl) rfl dX6_share_28 ?_
    refine lv_i2f hx hb dX6_share_29 ?_
    refine lv_fdiv hx hb dX6_share_30 (by first | exact (fb_isn (hv c_15)) | exact (hw2 c_15)) ?_
    refine lv_fstore_n (lv' := [(1, .float (FP.fdiv (FP.i2f (ms 12)) (FP.i2f (ms 11)))), (0, .ref m0)]) hx hb dX6_share_31 rfl hl (by decide) rfl (fun ls hl => ?_)
    refine lv_aload_n hx hb dX6_share_32 rfl (lv_at hl 1 rfl) ?_
    refine ag_getX6 (v := .ref m1) hx hb hG hown hK hP 0 0 rfl (by decide) k_536 rfl dX6_share_33 ?_
    refine lv_bipush (v := 11) hx hb dX6_share_36 (by decide) ?_
    refine ag_ild (k := 11) (v := ms 11) hx hb hK hP 1 rfl rfl (Nat.le_of_ble_eq_true rfl) (Nat.le_of_ble_eq_true rfl) rfl dX6_share_38 ?_
    refine lv_if_ne (tgt := 47) hx hb dX6_share_39 (by decide) (fun _ => ?_) (fun h0 => absurd h0 c_15)
    refine lv_fload_n hx hb dX6_share_47 rfl (lv_at hl 0 rfl) ?_
    refine ag_callSi (As := [.float (FP.fdiv (FP.i2f (ms 12)) (FP.i2f (ms 11)))]) (rest := []) hx hb hml hown hG hK hN hA hP hD hS hl (ct_Jxf58ca_floatToIntBits_5c35a l D cI cC cL (FP.fdiv (FP.i2f (ms 12)) (FP.i2f (ms 11))) E T (hv c_15)) fJxf58ca_floatToIntBits_5c35a k_734 ag_cut_0 rfl (Nat.le_of_ble_eq_true rfl) ⟨Nat.le_of_ble_eq_true rfl, Nat.le_of_ble_eq_true rfl⟩ ⟨Nat.zero_le _, Nat.zero_le _⟩ dX6_share_48 (fun r w1 H locs hw hP hD hS => ?_)
    obtain ⟨rfl, hw⟩ := hw
    subst hw
    have hP : va_P D vwCl [oM m0 m1 m2 m3 m4 m5 m6 mf, aI cI m1 89 ms] H := hP
    have hD : va_D A [oM m0 m1 m2 m3 m4 m5 m6 mf, aI cI m1 89 ms] := hD
    exact ag_iret [m0, m1] hx hb hr rfl hlocks hP hS rfl rfl ⟨(by unfold sr_X6_share; rw [if_neg c_15]), rfl⟩ dX6_share_51
  · refine lv_iconst (v := 1) hx hb dX6_share_18 (by decide) ?_
    refine lv_goto (tgt := 29) hx hb dX6_share_19 (by decide) ?_
    refine lv_i2f hx hb dX6_share_29 ?_
    refine lv_fdiv hx hb dX6_share_30 (by first | exact (fb_isn (hv c_15)) | exact (hw2 c_15)) ?_
    refine lv_fstore_n (lv' := [(1, .float (FP.fdiv (FP.i2f (ms 12)) (FP.i2f 1))), (0, .ref m0)]) hx hb dX6_share_31 rfl hl (by decide) rfl (fun ls hl => ?_)
    refine lv_aload_n hx hb dX6_share_32 rfl (lv_at hl 1 rfl) ?_
    refine ag_getX6 (v := .ref m1) hx hb hG hown hK hP 0 0 rfl (by decide) k_536 rfl dX6_share_33 ?_
    refine lv_bipush (v := 11) hx hb dX6_share_36 (by decide) ?_
    refine ag_ild (k := 11) (v := ms 11) hx hb hK hP 1 rfl rfl (Nat.le_of_ble_eq_true rfl) (Nat.le_of_ble_eq_true rfl) rfl dX6_share_38 ?_
    refine lv_if_ne (tgt := 47) hx hb dX6_share_39 (by decide) (fun h0 => absurd c_15 h0) (fun _ => ?_)
    refine lv_ldc (v := (-1000000004)) hx hb hown (hG _ k_678) dX6_share_42 ?_
    refine lv_goto (tgt := 51) hx hb dX6_share_44 (by decide) ?_
    exact ag_iret [m0, m1] hx hb hr rfl hlocks hP hS rfl rfl ⟨(by unfold sr_X6_share; rw [if_pos c_15]), rfl⟩ dX6_share_51
