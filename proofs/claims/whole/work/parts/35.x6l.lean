/-! the model: reads -/
def j25_0_X6_reads (mf : Nat → Int32) (mx : Nat → Int32) : Int32 := if (sr_X6_isAt mf mx 33 126) = 0 then 0 else mx (sp mf)
def gv54_1_X6_reads (mf : Nat → Int32) (mx : Nat → Int32) (md : Nat → Int32) : Nat → Int32 := (nbX (upd (upd mf 15 (j25_0_X6_reads mf mx)) 10 ((mf 10) + 1)) mx md 0).1
def gv54_2_X6_reads (mf : Nat → Int32) (mx : Nat → Int32) (md : Nat → Int32) : Nat → Int32 := (nbX (upd (upd mf 15 (j25_0_X6_reads mf mx)) 10 ((mf 10) + 1)) mx md 0).2
def gv97_3_X6_reads (mf : Nat → Int32) (mx : Nat → Int32) (md : Nat → Int32) : Nat → Int32 := sw0_X6_sign (gv54_1_X6_reads mf mx md) mx 59
def gv70_4_X6_reads (mf : Nat → Int32) (mx : Nat → Int32) (md : Nat → Int32) : Nat → Int32 := sw0_X6_sign (gv54_1_X6_reads mf mx md) mx 44
def gv78_5_X6_reads (mf : Nat → Int32) (mx : Nat → Int32) (md : Nat → Int32) : Nat → Int32 := (nbX (gv70_4_X6_reads mf mx md) mx (gv54_2_X6_reads mf mx md) 1).1
def gv78_6_X6_reads (mf : Nat → Int32) (mx : Nat → Int32) (md : Nat → Int32) : Nat → Int32 := (nbX (gv70_4_X6_reads mf mx md) mx (gv54_2_X6_reads mf mx md) 1).2
def gv97_7_X6_reads (mf : Nat → Int32) (mx : Nat → Int32) (md : Nat → Int32) : Nat → Int32 := sw0_X6_sign (gv78_5_X6_reads mf mx md) mx 59
def sr_X6_reads (mf : Nat → Int32) (mx : Nat → Int32) (md : Nat → Int32) : Int32 := if (sr_X6_numbersOf (j25_0_X6_reads mf mx)) = 0 then 0 else if (sr_X6_numbered (upd (upd mf 15 (j25_0_X6_reads mf mx)) 10 ((mf 10) + 1)) mx md 0) = 0 then 0 else if (sr_X6_numbersOf (j25_0_X6_reads mf mx)) = 2 then if (sr_X6_sign (gv54_1_X6_reads mf mx md) mx 44) = 0 then 0 else if (sr_X6_numbered (gv70_4_X6_reads mf mx md) mx (gv54_2_X6_reads mf mx md) 1) = 0 then 0 else if (sr_X6_sign (gv78_5_X6_reads mf mx md) mx 59) = 0 then 0 else 1 else if (sr_X6_sign (gv54_1_X6_reads mf mx md) mx 59) = 0 then 0 else 1
def sw0_X6_reads (mf : Nat → Int32) (mx : Nat → Int32) (md : Nat → Int32) : Nat → Int32 := if (sr_X6_numbersOf (j25_0_X6_reads mf mx)) = 0 then upd mf 15 (j25_0_X6_reads mf mx) else if (sr_X6_numbered (upd (upd mf 15 (j25_0_X6_reads mf mx)) 10 ((mf 10) + 1)) mx md 0) = 0 then (gv54_1_X6_reads mf mx md) else if (sr_X6_numbersOf (j25_0_X6_reads mf mx)) = 2 then if (sr_X6_sign (gv54_1_X6_reads mf mx md) mx 44) = 0 then (gv70_4_X6_reads mf mx md) else if (sr_X6_numbered (gv70_4_X6_reads mf mx md) mx (gv54_2_X6_reads mf mx md) 1) = 0 then (gv78_5_X6_reads mf mx md) else (gv97_7_X6_reads mf mx md) else (gv97_3_X6_reads mf mx md)
def sw2_X6_reads (mf : Nat → Int32) (mx : Nat → Int32) (md : Nat → Int32) : Nat → Int32 := if (sr_X6_numbersOf (j25_0_X6_reads mf mx)) = 0 then md else if (sr_X6_numbered (upd (upd mf 15 (j25_0_X6_reads mf mx)) 10 ((mf 10) + 1)) mx md 0) = 0 then (gv54_2_X6_reads mf mx md) else if (sr_X6_numbersOf (j25_0_X6_reads mf mx)) = 2 then if (sr_X6_sign (gv54_1_X6_reads mf mx md) mx 44) = 0 then (gv54_2_X6_reads mf mx md) else (gv78_6_X6_reads mf mx md) else (gv54_2_X6_reads mf mx md)
abbrev po_X6_reads (cI cC cL : ClassId) (m0 m1 m2 m3 m4 m5 m6 : Nat) (mf mx md : Nat → Int32) (hs : tq mf) : Int32 → va_W → Prop := fun r w' => sr_X6_reads mf mx md = r ∧ [oM m0 m1 m2 m3 m4 m5 m6 (sw0_X6_reads mf mx md), aI cI m5 60 mx, aI cI m6 2 (sw2_X6_reads mf mx md)] = w'
set_option maxHeartbeats 4000000 in
set_option maxRecDepth 100000 in
theorem ct_X6_reads (l : Launch) (D : va_G) (cI cC cL : ClassId) (m0 m1 m2 m3 m4 m5 m6 : Nat) (mf mx md : Nat → Int32) (hs : tq mf) : ag_MI l yX6_reads cX6_reads 3 .boolean 3 66 D cI cC cL [.ref m0] [oM m0 m1 m2 m3 m4 m5 m6 mf, aI cI m5 60 mx, aI cI m6 2 md] (po_X6_reads cI cC cL m0 m1 m2 m3 m4 m5 m6 mf mx md hs) := by
  refine ag_MI.of (plainFor_of_name (by decide)) (Nat.le_of_ble_eq_true rfl) ?_
  intro p e s m below meth c hx hb hr hlocks hml hown hmn hG hK A hN hA H locs hP hD hS ls hl
  have hl : lv_has ls 3 [(0, .ref m0)] := hl
  have hlt : ¬ sr_X6_numbersOf (j25_0_X6_reads mf mx) = 0 → tq (upd (upd mf 15 (j25_0_X6_reads mf mx)) 10 (mf 10 + 1)) := fun h => tq_eq (tq_inc hs (isAt_lt (fun c => h (by unfold j25_0_X6_reads; rw [if_pos c]; rfl)))) rfl rfl
  refine lv_aload_n hx hb dX6_reads_0 rfl (lv_at hl 0 rfl) ?_
  refine lv_aload_n hx hb dX6_reads_1 rfl (lv_at hl 0 rfl) ?_
  refine lv_bipush (v := 33) hx hb dX6_reads_2 (by decide) ?_
  refine lv_bipush (v := 126) hx hb dX6_reads_4 (by decide) ?_
  refine ag_callVi (As := [.int 33, .int 126]) (rest := [.ref m0]) hx hb hml hown hG hK hN hA hP hD hS hl (ct_X6_isAt l D cI cC cL m0 m1 m2 m3 m4 m5 m6 mf mx 33 126 hs) fX6_isAt k_772 (ag_cut_1 [] [aI cI m6 2 md] rfl) (q0 := 0) rfl rfl rfl rfl (Nat.le_of_ble_eq_true rfl) ⟨Nat.le_of_ble_eq_true rfl, Nat.le_of_ble_eq_true rfl⟩ ⟨Nat.zero_le _, Nat.zero_le _⟩ dX6_reads_6 (fun r w1 H locs hw hP hD hS => ?_)
  obtain ⟨rfl, hw⟩ := hw
  subst hw
  have hP : va_P D vwCl [oM m0 m1 m2 m3 m4 m5 m6 mf, aI cI m5 60 mx, aI cI m6 2 md] H := hP
  have hD : va_D A [oM m0 m1 m2 m3 m4 m5 m6 mf, aI cI m5 60 mx, aI cI m6 2 md] := hD
  have J25 : ∀ (ls : Array Slot), lv_has ls 3 [(0, .ref m0)] → W p l e (ag_rm 3 66) s m ([.ref m0] : List Value).toArray below meth c H locs 0 0 (MQ below (va_Qi (po_X6_reads cI cC cL m0 m1 m2 m3 m4 m5 m6 mf mx md hs) (ag_Out D [oM m0 m1 m2 m3 m4 m5 m6 mf, aI cI m5 60 mx, aI cI m6 2 md]) A) ([.ref m0] : List Value).toArray s 0 0 A) (F0 m 25 ls [.int (j25_0_X6_reads mf mx), .ref m0]) := by
    intro ls hl
    refine ag_putX6 hx hb hG hown hK hP hD hS 0 20 rfl (by decide) k_556 (by decide) rfl rfl (Nat.le_of_ble_eq_true rfl) dX6_reads_25 (fun H locs hP hD hS => ?_)
    have hP : va_P D vwCl [oM m0 m1 m2 m3 m4 m5 m6 (upd mf 15 (j25_0_X6_reads mf mx)), aI cI m5 60 mx, aI cI m6 2 md] H := hP
    have hD : va_D A [oM m0 m1 m2 m3 m4 m5 m6 (upd mf 15 (j25_0_X6_reads mf mx)), aI cI m5 60 mx, aI cI m6 2 md] := hD
    refine lv_aload_n hx hb dX6_reads_28 rfl (lv_at hl 0 rfl) ?_
    refine ag_getX6 (v := .int (j25_0_X6_reads mf mx)) hx hb hG hown hK hP 0 20 rfl (by decide) k_556 rfl dX6_reads_29 ?_
    refine ag_callSi (As := [.int (j25_0_X6_reads mf mx)]) (rest := []) hx hb hml hown hG hK hN hA hP hD hS hl (ct_X6_numbersOf l D cI cC cL (j25_0_X6_reads mf mx)) fX6_numbersOf k_776 ag_cut_0 rfl (Nat.le_of_ble_eq_true rfl) ⟨Nat.le_of_ble_eq_true rfl, Nat.le_of_ble_eq_true rfl⟩ ⟨Nat.zero_le _, Nat.zero_le _⟩ dX6_reads_32 (fun r w1 H locs hw hP hD hS => ?_)
    obtain ⟨rfl, hw⟩ := hw
    subst hw
    have hP : va_P D vwCl [oM m0 m1 m2 m3 m4 m5 m6 (upd mf 15 (j25_0_X6_reads mf mx)), aI cI m5 60 mx, aI cI m6 2 md] H := hP
    have hD : va_D A [oM m0 m1 m2 m3 m4 m5 m6 (upd mf 15 (j25_0_X6_reads mf mx)), aI cI m5 60 mx, aI cI m6 2 md] := hD
    refine lv_istore_n (lv' := [(1, .int (sr_X6_numbersOf (j25_0_X6_reads mf mx))), (0, .ref m0)]) hx hb dX6_reads_35 rfl hl (by decide) rfl (fun ls hl => ?_)
    refine lv_iload_n hx hb dX6_reads_36 rfl (lv_at hl 0 rfl) ?_
    refine lv_if_ne (tgt := 42) hx hb dX6_reads_37 (by decide) (fun c_37 => ?_) (fun c_37 => ?_)
    · refine lv_aload_n hx hb dX6_reads_42 rfl (lv_at hl 1 rfl) ?_
      refine lv_dup hx hb dX6_reads_43 rfl ?_
      refine ag_getX6 (v := .int (mf 10)) hx hb hG hown hK hP 0 15 rfl (by decide) k_551 rfl dX6_reads_44 ?_
      refine lv_iconst (v := 1) hx hb dX6_reads_47 (by decide) ?_
      refine lv_iadd hx hb dX6_reads_48 ?_
      refine ag_putX6 hx hb hG hown hK hP hD hS 0 15 rfl (by decide) k_551 (by decide) rfl rfl (Nat.le_of_ble_eq_true rfl) dX6_reads_49 (fun H locs hP hD hS => ?_)
      have hP : va_P D vwCl [oM m0 m1 m2 m3 m4 m5 m6 (upd (upd mf 15 (j25_0_X6_reads mf mx)) 10 ((mf 10) + 1)), aI cI m5 60 mx, aI cI m6 2 md] H := hP
      have hD : va_D A [oM m0 m1 m2 m3 m4 m5 m6 (upd (upd mf 15 (j25_0_X6_reads mf mx)) 10 ((mf 10) + 1)), aI cI m5 60 mx, aI cI m6 2 md] := hD
      refine lv_aload_n hx hb dX6_reads_52 rfl (lv_at hl 1 rfl) ?_
      refine lv_iconst (v := 0) hx hb dX6_reads_53 (by decide) ?_
      refine ag_callVi (As := [.int 0]) (rest := []) hx hb hml hown hG hK hN hA hP hD hS hl (ct_X6_numbered l D cI cC cL m0 m1 m2 m3 m4 m5 m6 (upd (upd mf 15 (j25_0_X6_reads mf mx)) 10 ((mf 10) + 1)) mx md 0 0 (⟨rfl, by decide⟩) (hlt c_37)) fX6_numbered k_779 ag_cut_all (q0 := 0) rfl rfl rfl rfl (Nat.le_of_ble_eq_true rfl) ⟨Nat.le_of_ble_eq_true rfl, Nat.le_of_ble_eq_true rfl⟩ ⟨Nat.zero_le _, Nat.zero_le _⟩ dX6_reads_54 (fun r w1 H locs hw hP hD hS => ?_)
      obtain ⟨rfl, hw⟩ := hw
      generalize eg54_1 : (nbX (upd (upd mf 15 (j25_0_X6_reads mf mx)) 10 ((mf 10) + 1)) mx md 0).1 = g54_1 at hw
      replace eg54_1 : gv54_1_X6_reads mf mx md = g54_1 := (by rw [← eg54_1]; rfl)
      generalize eg54_2 : (nbX (upd (upd mf 15 (j25_0_X6_reads mf mx)) 10 ((mf 10) + 1)) mx md 0).2 = g54_2 at hw
      replace eg54_2 : gv54_2_X6_reads mf mx md = g54_2 := (by rw [← eg54_2]; rfl)
      subst hw
      have hP : va_P D vwCl [oM m0 m1 m2 m3 m4 m5 m6 g54_1, aI cI m5 60 mx, aI cI m6 2 g54_2] H := hP
      have hD : va_D A [oM m0 m1 m2 m3 m4 m5 m6 g54_1, aI cI m5 60 mx, aI cI m6 2 g54_2] := hD
      refine lv_istore_n (lv' := [(2, .int (sr_X6_numbered (upd (upd mf 15 (j25_0_X6_reads mf mx)) 10 ((mf 10) + 1)) mx md 0)), (1, .int (sr_X6_numbersOf (j25_0_X6_reads mf mx))), (0, .ref m0)]) hx hb dX6_reads_57 rfl hl (by decide) rfl (fun ls hl => ?_)
      refine lv_iload_n hx hb dX6_reads_58 rfl (lv_at hl 0 rfl) ?_
      refine lv_if_eq (tgt := 90) hx hb dX6_reads_59 (by decide) (fun c_59 => ?_) (fun c_59 => ?_)
      · refine lv_iload_n hx hb dX6_reads_90 rfl (lv_at hl 0 rfl) ?_
        refine lv_if_eq (tgt := 107) hx hb dX6_reads_91 (by decide) (fun _ => ?_) (fun h0 => absurd c_59 h0)
        refine lv_iconst (v := 0) hx hb dX6_reads_107 (by decide) ?_
        revert hP; revert hD; revert hS; revert hl
        subst eg54_2
        subst eg54_1
        intro hl hS hD hP
        exact ag_iret [m0, m5, m6] hx hb hr (by decide) hlocks hP hS rfl rfl ⟨(by unfold sr_X6_reads; rw [if_neg c_37, if_pos c_59]), (by show _ = _; rw [show sw0_X6_reads mf mx md = (gv54_1_X6_reads mf mx md) from (by unfold sw0_X6_reads; rw [if_neg c_37, if_pos c_59]), show sw2_X6_reads mf mx md = (gv54_2_X6_reads mf mx md) from (by unfold sw2_X6_reads; rw [if_neg c_37, if_pos c_59])])⟩ dX6_reads_108
      · refine lv_iload_n hx hb dX6_reads_62 rfl (lv_at hl 1 rfl) ?_
        refine lv_iconst (v := 2) hx hb dX6_reads_63 (by decide) ?_
        refine lv_icmp_ne (tgt := 90) hx hb dX6_reads_64 (by decide) (fun c_64 => ?_) (fun c_64 => ?_)
        · refine lv_iload_n hx hb dX6_reads_90 rfl (lv_at hl 0 rfl) ?_
          refine lv_if_eq (tgt := 107) hx hb dX6_reads_91 (by decide) (fun h0 => absurd h0 c_59) (fun _ => ?_)
          refine lv_aload_n hx hb dX6_reads_94 rfl (lv_at hl 2 rfl) ?_
          refine lv_bipush (v := 59) hx hb dX6_reads_95 (by decide) ?_
          refine ag_callVi (As := [.int 59]) (rest := []) hx hb hml hown hG hK hN hA hP hD hS hl (ct_X6_sign l D cI cC cL m0 m1 m2 m3 m4 m5 m6 g54_1 mx 59 (by rw [← eg54_1]; exact nbX_tq (hlt c_37))) fX6_sign k_783 (ag_cut_1 [] [aI cI m6 2 g54_2] rfl) (q0 := 0) rfl rfl rfl rfl (Nat.le_of_ble_eq_true rfl) ⟨Nat.le_of_ble_eq_true rfl, Nat.le_of_ble_eq_true rfl⟩ ⟨Nat.zero_le _, Nat.zero_le _⟩ dX6_reads_97 (fun r w1 H locs hw hP hD hS => ?_)
          obtain ⟨rfl, hw⟩ := hw
          generalize eg97_3 : sw0_X6_sign g54_1 mx 59 = g97_3 at hw
          replace eg97_3 : gv97_3_X6_reads mf mx md = g97_3 := (by rw [← eg97_3, ← eg54_1]; rfl)
          subst hw
          have hP : va_P D vwCl [oM m0 m1 m2 m3 m4 m5 m6 g97_3, aI cI m5 60 mx, aI cI m6 2 g54_2] H := hP
          have hD : va_D A [oM m0 m1 m2 m3 m4 m5 m6 g97_3, aI cI m5 60 mx, aI cI m6 2 g54_2] := hD
          refine lv_if_eq (tgt := 107) hx hb dX6_reads_100 (by decide) (fun c_100 => ?_) (fun c_100 => ?_)
          · refine lv_iconst (v := 0) hx hb dX6_reads_107 (by decide) ?_
            revert hP; revert hD; revert hS; revert hl
            subst eg97_3
            subst eg54_2
            subst eg54_1
            intro hl hS hD hP
            exact ag_iret [m0, m5, m6] hx hb hr (by decide) hlocks hP hS rfl rfl ⟨(by unfold sr_X6_reads; rw [if_neg c_37, if_neg c_59, if_neg c_64, if_pos c_100]), (by show _ = _; rw [show sw0_X6_reads mf mx md = (gv97_3_X6_reads mf mx md) from (by unfold sw0_X6_reads; rw [if_neg c_37, if_neg c_59, if_neg c_64]), show sw2_X6_reads mf mx md = (gv54_2_X6_reads mf mx md) from (by unfold sw2_X6_reads; rw [if_neg c_37, if_neg c_59, if_neg c_64])])⟩ dX6_reads_108
          · refine lv_iconst (v := 1) hx hb dX6_reads_103 (by decide) ?_
            refine lv_goto (tgt := 108) hx hb dX6_reads_104 (by decide) ?_
            revert hP; revert hD; revert hS; revert hl
            subst eg97_3
            subst eg54_2
            subst eg54_1
            intro hl hS hD hP
            exact ag_iret [m0, m5, m6] hx hb hr (by decide) hlocks hP hS rfl rfl ⟨(by unfold sr_X6_reads; rw [if_neg c_37, if_neg c_59, if_neg c_64, if_neg c_100]), (by show _ = _; rw [show sw0_X6_reads mf mx md = (gv97_3_X6_reads mf mx md) from (by unfold sw0_X6_reads; rw [if_neg c_37, if_neg c_59, if_neg c_64]), show sw2_X6_reads mf mx md = (gv54_2_X6_reads mf mx md) from (by unfold sw2_X6_reads; rw [if_neg c_37, if_neg c_59, if_neg c_64])])⟩ dX6_reads_108
        · refine lv_aload_n hx hb dX6_reads_67 rfl (lv_at hl 2 rfl) ?_
          refine lv_bipush (v := 44) hx hb dX6_reads_68 (by decide) ?_
          refine ag_callVi (As := [.int 44]) (rest := []) hx hb hml hown hG hK hN hA hP hD hS hl (ct_X6_sign l D cI cC cL m0 m1 m2 m3 m4 m5 m6 g54_1 mx 44 (by rw [← eg54_1]; exact nbX_tq (hlt c_37))) fX6_sign k_783 (ag_cut_1 [] [aI cI m6 2 g54_2] rfl) (q0 := 0) rfl rfl rfl rfl (Nat.le_of_ble_eq_true rfl) ⟨Nat.le_of_ble_eq_true rfl, Nat.le_of_ble_eq_true rfl⟩ ⟨Nat.zero_le _, Nat.zero_le _⟩ dX6_reads_70 (fun r w1 H locs hw hP hD hS => ?_)
          obtain ⟨rfl, hw⟩ := hw
          generalize eg70_4 : sw0_X6_sign g54_1 mx 44 = g70_4 at hw
          replace eg70_4 : gv70_4_X6_reads mf mx md = g70_4 := (by rw [← eg70_4, ← eg54_1]; rfl)
          subst hw
          have hP : va_P D vwCl [oM m0 m1 m2 m3 m4 m5 m6 g70_4, aI cI m5 60 mx, aI cI m6 2 g54_2] H := hP
          have hD : va_D A [oM m0 m1 m2 m3 m4 m5 m6 g70_4, aI cI m5 60 mx, aI cI m6 2 g54_2] := hD
          refine lv_if_eq (tgt := 88) hx hb dX6_reads_73 (by decide) (fun c_73 => ?_) (fun c_73 => ?_)
          · refine lv_iconst (v := 0) hx hb dX6_reads_88 (by decide) ?_
            refine lv_istore_n (lv' := [(2, .int 0), (1, .int (sr_X6_numbersOf (j25_0_X6_reads mf mx))), (0, .ref m0)]) hx hb dX6_reads_89 rfl hl (by decide) rfl (fun ls hl => ?_)
            refine lv_iload_n hx hb dX6_reads_90 rfl (lv_at hl 0 rfl) ?_
            refine lv_if_eq (tgt := 107) hx hb dX6_reads_91 (by decide) (fun _ => ?_) (fun h0 => absurd (by decide) h0)
            refine lv_iconst (v := 0) hx hb dX6_reads_107 (by decide) ?_
            revert hP; revert hD; revert hS; revert hl
            subst eg70_4
            subst eg54_2
            subst eg54_1
            intro hl hS hD hP
            exact ag_iret [m0, m5, m6] hx hb hr (by decide) hlocks hP hS rfl rfl ⟨(by unfold sr_X6_reads; rw [if_neg c_37, if_neg c_59, if_pos c_64, if_pos c_73]), (by show _ = _; rw [show sw0_X6_reads mf mx md = (gv70_4_X6_reads mf mx md) from (by unfold sw0_X6_reads; rw [if_neg c_37, if_neg c_59, if_pos c_64, if_pos c_73]), show sw2_X6_reads mf mx md = (gv54_2_X6_reads mf mx md) from (by unfold sw2_X6_reads; rw [if_neg c_37, if_neg c_59, if_pos c_64, if_pos c_73])])⟩ dX6_reads_108
          · refine lv_aload_n hx hb dX6_reads_76 rfl (lv_at hl 2 rfl) ?_
            refine lv_iconst (v := 1) hx hb dX6_reads_77 (by decide) ?_
            refine ag_callVi (As := [.int 1]) (rest := []) hx hb hml hown hG hK hN hA hP hD hS hl (ct_X6_numbered l D cI cC cL m0 m1 m2 m3 m4 m5 m6 g70_4 mx g54_2 1 1 (⟨rfl, by decide⟩) (by rw [← eg70_4]; exact tq_sign (nbX_tq (hlt c_37)))) fX6_numbered k_779 ag_cut_all (q0 := 0) rfl rfl rfl rfl (Nat.le_of_ble_eq_true rfl) ⟨Nat.le_of_ble_eq_true rfl, Nat.le_of_ble_eq_true rfl⟩ ⟨Nat.zero_le _, Nat.zero_le _⟩ dX6_reads_78 (fun r w1 H locs hw hP hD hS => ?_)
            obtain ⟨rfl, hw⟩ := hw
            generalize eg78_5 : (nbX g70_4 mx g54_2 1).1 = g78_5 at hw
            replace eg78_5 : gv78_5_X6_reads mf mx md = g78_5 := (by rw [← eg78_5, ← eg54_2, ← eg70_4]; rfl)
            generalize eg78_6 : (nbX g70_4 mx g54_2 1).2 = g78_6 at hw
            replace eg78_6 : gv78_6_X6_reads mf mx md = g78_6 := (by rw [← eg78_6, ← eg54_2, ← eg70_4]; rfl)
            subst hw
            have hP : va_P D vwCl [oM m0 m1 m2 m3 m4 m5 m6 g78_5, aI cI m5 60 mx, aI cI m6 2 g78_6] H := hP
            have hD : va_D A [oM m0 m1 m2 m3 m4 m5 m6 g78_5, aI cI m5 60 mx, aI cI m6 2 g78_6] := hD
            refine lv_if_eq (tgt := 88) hx hb dX6_reads_81 (by decide) (fun c_81 => ?_) (fun c_81 => ?_)
            · refine lv_iconst (v := 0) hx hb dX6_reads_88 (by decide) ?_
              refine lv_istore_n (lv' := [(2, .int 0), (1, .int (sr_X6_numbersOf (j25_0_X6_reads mf mx))), (0, .ref m0)]) hx hb dX6_reads_89 rfl hl (by decide) rfl (fun ls hl => ?_)
              refine lv_iload_n hx hb dX6_reads_90 rfl (lv_at hl 0 rfl) ?_
              refine lv_if_eq (tgt := 107) hx hb dX6_reads_91 (by decide) (fun _ => ?_) (fun h0 => absurd (by decide) h0)
              refine lv_iconst (v := 0) hx hb dX6_reads_107 (by decide) ?_
              revert hP; revert hD; revert hS; revert hl
              subst eg78_6
              subst eg78_5
              subst eg70_4
              subst eg54_2
              subst eg54_1
              intro hl hS hD hP
              exact ag_iret [m0, m5, m6] hx hb hr (by decide) hlocks hP hS rfl rfl ⟨(by unfold sr_X6_reads; rw [if_neg c_37, if_neg c_59, if_pos c_64, if_neg c_73, if_pos c_81]), (by show _ = _; rw [show sw0_X6_reads mf mx md = (gv78_5_X6_reads mf mx md) from (by unfold sw0_X6_reads; rw [if_neg c_37, if_neg c_59, if_pos c_64, if_neg c_73, if_pos c_81]), show sw2_X6_reads mf mx md = (gv78_6_X6_reads mf mx md) from (by unfold sw2_X6_reads; rw [if_neg c_37, if_neg c_59, if_pos c_64, if_neg c_73])])⟩ dX6_reads_108
            · refine lv_iconst (v := 1) hx hb dX6_reads_84 (by decide) ?_
              refine lv_goto (tgt := 89) hx hb dX6_reads_85 (by decide) ?_
              refine lv_istore_n (lv' := [(2, .int 1), (1, .int (sr_X6_numbersOf (j25_0_X6_reads mf mx))), (0, .ref m0)]) hx hb dX6_reads_89 rfl hl (by decide) rfl (fun ls hl => ?_)
              refine lv_iload_n hx hb dX6_reads_90 rfl (lv_at hl 0 rfl) ?_
              refine lv_if_eq (tgt := 107) hx hb dX6_reads_91 (by decide) (fun h0 => absurd h0 (by decide)) (fun _ => ?_)
              refine lv_aload_n hx hb dX6_reads_94 rfl (lv_at hl 2 rfl) ?_
              refine lv_bipush (v := 59) hx hb dX6_reads_95 (by decide) ?_
              refine ag_callVi (As := [.int 59]) (rest := []) hx hb hml hown hG hK hN hA hP hD hS hl (ct_X6_sign l D cI cC cL m0 m1 m2 m3 m4 m5 m6 g78_5 mx 59 (by rw [← eg78_5]; exact nbX_tq (tq_sign (nbX_tq (hlt c_37))))) fX6_sign k_783 (ag_cut_1 [] [aI cI m6 2 g78_6] rfl) (q0 := 0) rfl rfl rfl rfl (Nat.le_of_ble_eq_true rfl) ⟨Nat.le_of_ble_eq_true rfl, Nat.le_of_ble_eq_true rfl⟩ ⟨Nat.zero_le _, Nat.zero_le _⟩ dX6_reads_97 (fun r w1 H locs hw hP hD hS => ?_)
              obtain ⟨rfl, hw⟩ := hw
              generalize eg97_7 : sw0_X6_sign g78_5 mx 59 = g97_7 at hw
              replace eg97_7 : gv97_7_X6_reads mf mx md = g97_7 := (by rw [← eg97_7, ← eg78_5]; rfl)
              subst hw
              have hP : va_P D vwCl [oM m0 m1 m2 m3 m4 m5 m6 g97_7, aI cI m5 60 mx, aI cI m6 2 g78_6] H := hP
              have hD : va_D A [oM m0 m1 m2 m3 m4 m5 m6 g97_7, aI cI m5 60 mx, aI cI m6 2 g78_6] := hD
              refine lv_if_eq (tgt := 107) hx hb dX6_reads_100 (by decide) (fun c_100 => ?_) (fun c_100 => ?_)
              · refine lv_iconst (v := 0) hx hb dX6_reads_107 (by decide) ?_
                revert hP; revert hD; revert hS; revert hl
                subst eg97_7
                subst eg78_6
                subst eg78_5
                subst eg70_4
                subst eg54_2
                subst eg54_1
                intro hl hS hD hP
                exact ag_iret [m0, m5, m6] hx hb hr (by decide) hlocks hP hS rfl rfl ⟨(by unfold sr_X6_reads; rw [if_neg c_37, if_neg c_59, if_pos c_64, if_neg c_73, if_neg c_81, if_pos c_100]), (by show _ = _; rw [show sw0_X6_reads mf mx md = (gv97_7_X6_reads mf mx md) from (by unfold sw0_X6_reads; rw [if_neg c_37, if_neg c_59, if_pos c_64, if_neg c_73, if_neg c_81]), show sw2_X6_reads mf mx md = (gv78_6_X6_reads mf mx md) from (by unfold sw2_X6_reads; rw [if_neg c_37, if_neg c_59, if_pos c_64, if_neg c_73])])⟩ dX6_reads_108
              · refine lv_iconst (v := 1) hx hb dX6_reads_103 (by decide) ?_
                refine lv_goto (tgt := 108) hx hb dX6_reads_104 (by decide) ?_
                revert hP; revert hD; revert hS; revert hl
                subst eg97_7
                subst eg78_6
                subst eg78_5
                subst eg70_4
                subst eg54_2
                subst eg54_1
                intro hl hS hD hP
                exact ag_iret [m0, m5, m6] hx hb hr (by decide) hlocks hP hS rfl rfl ⟨(by unfold sr_X6_reads; rw [if_neg c_37, if_neg c_59, if_pos c_64, if_neg c_73, if_neg c_81, if_neg c_100]), (by show _ = _; rw [show sw0_X6_reads mf mx md = (gv97_7_X6_reads mf mx md) from (by unfold sw0_X6_reads; rw [if_neg c_37, if_neg c_59, if_pos c_64, if_neg c_73, if_neg c_81]), show sw2_X6_reads mf mx md = (gv78_6_X6_reads mf mx md) from (by unfold sw2_X6_reads; rw [if_neg c_37, if_neg c_59, if_pos c_64, if_neg c_73])])⟩ dX6_reads_108
    · refine lv_iconst (v := 0) hx hb dX6_reads_40 (by decide) ?_
      exact ag_iret [m0, m5, m6] hx hb hr (by decide) hlocks hP hS rfl rfl ⟨(by unfold sr_X6_reads; rw [if_pos c_37]), (by show _ = _; rw [show sw0_X6_reads mf mx md = upd mf 15 (j25_0_X6_reads mf mx) from (by unfold sw0_X6_reads; rw [if_pos c_37]), show sw2_X6_reads mf mx md = md from (by unfold sw2_X6_reads; rw [if_pos c_37])])⟩ dX6_reads_41
  refine lv_if_eq (tgt := 24) hx hb dX6_reads_9 (by decide) (fun c_9 => ?_) (fun c_9 => ?_)
  · refine lv_iconst (v := 0) hx hb dX6_reads_24 (by decide) ?_
    simp only [j25_0_X6_reads, if_pos c_9] at J25
    exact J25 _ (lv_sub hl [0] rfl)
  · refine lv_aload_n hx hb dX6_reads_12 rfl (lv_at hl 0 rfl) ?_
    refine ag_getX6 (v := .ref m5) hx hb hG hown hK hP 0 6 rfl (by decide) k_542 rfl dX6_reads_13 ?_
    refine lv_aload_n hx hb dX6_reads_16 rfl (lv_at hl 0 rfl) ?_
    refine ag_getX6 (v := .int (mf 10)) hx hb hG hown hK hP 0 15 rfl (by decide) k_551 rfl dX6_reads_17 ?_
    refine ag_ild (k := sp mf) (v := mx (sp mf)) hx hb hK hP 1 rfl (tq_ix hs (isAt_lt c_9)).1 (tq_ix hs (isAt_lt c_9)).2 (Nat.le_of_ble_eq_true rfl) rfl dX6_reads_20 ?_
    refine lv_goto (tgt := 25) hx hb dX6_reads_21 (by decide) ?_
    simp only [j25_0_X6_reads, if_neg c_9] at J25
    exact J25 _ (lv_sub hl [0] rfl)
