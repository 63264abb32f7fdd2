/-! the model: second -/
def j24_0_X6_weighs (ms : Nat → Int32) : Int32 := if (sr_X6_size (sr_X6_head ms)) < (ms 8) then 0 else 1
def j51_0_X6_weighs (ms : Nat → Int32) : Int32 := if (sr_X6_isBirds ms) = 0 then if (ms 9) < (sr_X6_size (sr_X6_head ms)) then 0 else 1 else 0
def j74_0_X6_weighs (ms : Nat → Int32) : Int32 := if (sr_X6_isBirds ms) = 0 then ((ms 3) * (sr_X6_head ms)) * 2 else 0
def xv74_1_X6_weighs (ms : Nat → Int32) : Int32 := j74_0_X6_weighs ms
def j94_0_X6_weighs (ms : Nat → Int32) : Int32 := if (j24_0_X6_weighs ms) = 0 then 0 else (ms 4) * (sr_X6_head ms)
def xv94_2_X6_weighs (ms : Nat → Int32) : Int32 := j94_0_X6_weighs ms
def j112_0_X6_weighs (ms : Nat → Int32) : Int32 := if (j51_0_X6_weighs ms) = 0 then 0 else ms 5
def xv112_3_X6_weighs (ms : Nat → Int32) : Int32 := j112_0_X6_weighs ms
def xv131_4_X6_weighs (ms : Nat → Int32) : Int32 := ((sr_X6_size (xv94_2_X6_weighs ms)) * (sr_X6_size (sr_X6_head ms))) / 100
def xv153_5_X6_weighs (ms : Nat → Int32) : Int32 := ((sr_X6_size (xv112_3_X6_weighs ms)) * (20 + (sr_X6_size (sr_X6_head ms)))) / 100
def xv171_6_X6_weighs (ms : Nat → Int32) : Int32 := ((xv74_1_X6_weighs ms) + (xv94_2_X6_weighs ms)) + (xv112_3_X6_weighs ms)
def j231_0_X6_weighs (ms : Nat → Int32) : Int32 := if ((ms 1) + (xv171_6_X6_weighs ms)) ≤ 80000 then if 0 ≤ ((ms 1) + (xv171_6_X6_weighs ms)) then (xv171_6_X6_weighs ms) else -(ms 1) else 80000 - (ms 1)
def xv231_7_X6_weighs (ms : Nat → Int32) : Int32 := j231_0_X6_weighs ms
def j345_0_X6_weighs (ms : Nat → Int32) : Int32 := if (ms 2) ≤ ((-(xv231_7_X6_weighs ms)) / 20) then -(ms 2) else -((-(xv231_7_X6_weighs ms)) / 20)
def xv345_8_X6_weighs (ms : Nat → Int32) : Int32 := j345_0_X6_weighs ms
def j287_0_X6_weighs (ms : Nat → Int32) : Int32 := if (20000 - (ms 2)) ≤ ((xv231_7_X6_weighs ms) / 50) then 20000 - (ms 2) else (xv231_7_X6_weighs ms) / 50
def xv287_9_X6_weighs (ms : Nat → Int32) : Int32 := j287_0_X6_weighs ms
def sw0_X6_weighs (mf : Nat → Int32) (ms : Nat → Int32) : Nat → Int32 := if (xv231_7_X6_weighs ms) ≤ 0 then if (-(ms 10)) < (xv231_7_X6_weighs ms) then upd (upd (upd (upd (upd (upd (upd (upd mf 3 (xv74_1_X6_weighs ms)) 4 (xv94_2_X6_weighs ms)) 5 (xv112_3_X6_weighs ms)) 7 (xv131_4_X6_weighs ms)) 8 (xv153_5_X6_weighs ms)) 6 (xv171_6_X6_weighs ms)) 6 (xv231_7_X6_weighs ms)) 9 0 else upd (upd (upd (upd (upd (upd (upd (upd (upd mf 3 (xv74_1_X6_weighs ms)) 4 (xv94_2_X6_weighs ms)) 5 (xv112_3_X6_weighs ms)) 7 (xv131_4_X6_weighs ms)) 8 (xv153_5_X6_weighs ms)) 6 (xv171_6_X6_weighs ms)) 6 (xv231_7_X6_weighs ms)) 9 0) 9 (xv345_8_X6_weighs ms) else upd (upd (upd (upd (upd (upd (upd (upd (upd mf 3 (xv74_1_X6_weighs ms)) 4 (xv94_2_X6_weighs ms)) 5 (xv112_3_X6_weighs ms)) 7 (xv131_4_X6_weighs ms)) 8 (xv153_5_X6_weighs ms)) 6 (xv171_6_X6_weighs ms)) 6 (xv231_7_X6_weighs ms)) 9 0) 9 (xv287_9_X6_weighs ms)
abbrev po_X6_weighs (cI cC cL : ClassId) (m0 m1 m2 m3 m4 m5 m6 : Nat) (mf ms : Nat → Int32) : va_W → Prop := fun w' => [oM m0 m1 m2 m3 m4 m5 m6 (sw0_X6_weighs mf ms), aI cI m1 89 ms] = w'
set_option maxHeartbeats 4000000 in
set_option maxRecDepth 100000 in
theorem ct_X6_weighs (l : Launch) (D : va_G) (cI cC cL : ClassId) (m0 m1 m2 m3 m4 m5 m6 : Nat) (mf ms : Nat → Int32) : ag_MV l yX6_weighs cX6_weighs 4 4 82 D cI cC cL [.ref m0] [oM m0 m1 m2 m3 m4 m5 m6 mf, aI cI m1 89 ms] (po_X6_weighs cI cC cL m0 m1 m2 m3 m4 m5 m6 mf ms) := by
  refine ag_MV.of (plainFor_of_name (by decide)) (Nat.le_of_ble_eq_true rfl) ?_
  intro p e s m below meth c hx hb hr hlocks hml hown hmn hG hK A hN hA H locs hP hD hS ls hl
  have hl : lv_has ls 4 [(0, .ref m0)] := hl
  refine lv_aload_n hx hb dX6_weighs_0 rfl (lv_at hl 0 rfl) ?_
  refine ag_callVi (As := []) (rest := []) hx hb hml hown hG hK hN hA hP hD hS hl (ct_X6_head l D cI cC cL m0 m1 m2 m3 m4 m5 m6 mf ms) fX6_head k_648 ag_cut_all (q0 := 0) rfl rfl rfl rfl (Nat.le_of_ble_eq_true rfl) ⟨Nat.le_of_ble_eq_true rfl, Nat.le_of_ble_eq_true rfl⟩ ⟨Nat.zero_le _, Nat.zero_le _⟩ dX6_weighs_1 (fun r w1 H locs hw hP hD hS => ?_)
  obtain ⟨rfl, hw⟩ := hw
  subst hw
  have hP : va_P D vwCl [oM m0 m1 m2 m3 m4 m5 m6 mf, aI cI m1 89 ms] H := hP
  have hD : va_D A [oM m0 m1 m2 m3 m4 m5 m6 mf, aI cI m1 89 ms] := hD
  refine lv_istore_n (lv' := [(1, .int (sr_X6_head ms)), (0, .ref m0)]) hx hb dX6_weighs_4 rfl hl (by decide) rfl (fun ls hl => ?_)
  refine lv_iload_n hx hb dX6_weighs_5 rfl (lv_at hl 0 rfl) ?_
  refine ag_callSi (As := [.int (sr_X6_head ms)]) (rest := []) hx hb hml hown hG hK hN hA hP hD hS hl (ct_X6_size l D cI cC cL (sr_X6_head ms)) fX6_size k_658 ag_cut_0 rfl (Nat.le_of_ble_eq_true rfl) ⟨Nat.le_of_ble_eq_true rfl, Nat.le_of_ble_eq_true rfl⟩ ⟨Nat.zero_le _, Nat.zero_le _⟩ dX6_weighs_6 (fun r w1 H locs hw hP hD hS => ?_)
  obtain ⟨rfl, hw⟩ := hw
  subst hw
  have hP : va_P D vwCl [oM m0 m1 m2 m3 m4 m5 m6 mf, aI cI m1 89 ms] H := hP
  have hD : va_D A [oM m0 m1 m2 m3 m4 m5 m6 mf, aI cI m1 89 ms] := hD
  refine lv_aload_n hx hb dX6_weighs_9 rfl (lv_at hl 1 rfl) ?_
  refine ag_getX6 (v := .ref m1) hx hb hG hown hK hP 0 0 rfl (by decide) k_536 rfl dX6_weighs_10 ?_
  refine lv_bipush (v := 8) hx hb dX6_weighs_13 (by decide) ?_
  refine ag_ild (k := 8) (v := ms 8) hx hb hK hP 1 rfl rfl (Nat.le_of_ble_eq_true rfl) (Nat.le_of_ble_eq_true rfl) rfl dX6_weighs_15 ?_
  have J24 : ∀ (ls : Array Slot), lv_has ls 4 [(0, .ref m0), (1, .int (sr_X6_head ms))] → W p l e (ag_rm 4 82) s m ([.ref m0] : List Value).toArray below meth c H locs 0 0 (MQ below (va_Qv (po_X6_weighs cI cC cL m0 m1 m2 m3 m4 m5 m6 mf ms) (ag_Out D [oM m0 m1 m2 m3 m4 m5 m6 mf, aI cI m1 89 ms]) A) ([.ref m0] : List Value).toArray s 0 0 A) (F0 m 24 ls [.int (j24_0_X6_weighs ms)]) := by
    intro ls hl
    refine lv_istore_n (lv' := [(2, .int (j24_0_X6_weighs ms)), (0, .ref m0), (1, .int (sr_X6_head ms))]) hx hb dX6_weighs_24 rfl hl (by decide) rfl (fun ls hl => ?_)
    refine lv_aload_n hx hb dX6_weighs_25 rfl (lv_at hl 1 rfl) ?_
    refine ag_callVi (As := []) (rest := []) hx hb hml hown hG hK hN hA hP hD hS hl (ct_X6_isBirds l D cI cC cL m0 m1 m2 m3 m4 m5 m6 mf ms) fX6_isBirds k_665 ag_cut_all (q0 := 0) rfl rfl rfl rfl (Nat.le_of_ble_eq_true rfl) ⟨Nat.le_of_ble_eq_true rfl, Nat.le_of_ble_eq_true rfl⟩ ⟨Nat.zero_le _, Nat.zero_le _⟩ dX6_weighs_26 (fun r w1 H locs hw hP hD hS => ?_)
    obtain ⟨rfl, hw⟩ := hw
    subst hw
    have hP : va_P D vwCl [oM m0 m1 m2 m3 m4 m5 m6 mf, aI cI m1 89 ms] H := hP
    have hD : va_D A [oM m0 m1 m2 m3 m4 m5 m6 mf, aI cI m1 89 ms] := hD
    have J51 : ∀ (H : Heap) (locs : List Loc), va_P D vwCl [oM m0 m1 m2 m3 m4 m5 m6 mf, aI cI m1 89 ms] H → va_D A [oM m0 m1 m2 m3 m4 m5 m6 mf, aI cI m1 89 ms] → va_S A s.heap H locs → ∀ (ls : Array Slot), lv_has ls 4 [(0, .ref m0), (1, .int (sr_X6_head ms)), (2, .int (j24_0_X6_weighs ms))] → W p l e (ag_rm 4 82) s m ([.ref m0] : List Value).toArray below meth c H locs 0 0 (MQ below (va_Qv (po_X6_weighs cI cC cL m0 m1 m2 m3 m4 m5 m6 mf ms) (ag_Out D [oM m0 m1 m2 m3 m4 m5 m6 mf, aI cI m1 89 ms]) A) ([.ref m0] : List Value).toArray s 0 0 A) (F0 m 51 ls [.int (j51_0_X6_weighs ms)]) := by
      intro H locs hP hD hS ls hl
      refine lv_istore_n (lv' := [(3, .int (j51_0_X6_weighs ms)), (0, .ref m0), (1, .int (sr_X6_head ms)), (2, .int (j24_0_X6_weighs ms))]) hx hb dX6_weighs_51 rfl hl (by decide) rfl (fun ls hl => ?_)
      refine lv_aload_n hx hb dX6_weighs_52 rfl (lv_at hl 1 rfl) ?_
      refine lv_aload_n hx hb dX6_weighs_53 rfl (lv_at hl 1 rfl) ?_
      refine ag_callVi (As := []) (rest := [.ref m0]) hx hb hml hown hG hK hN hA hP hD hS hl (ct_X6_isBirds l D cI cC cL m0 m1 m2 m3 m4 m5 m6 mf ms) fX6_isBirds k_665 ag_cut_all (q0 := 0) rfl rfl rfl rfl (Nat.le_of_ble_eq_true rfl) ⟨Nat.le_of_ble_eq_true rfl, Nat.le_of_ble_eq_true rfl⟩ ⟨Nat.zero_le _, Nat.zero_le _⟩ dX6_weighs_54 (fun r w1 H locs hw hP hD hS => ?_)
      obtain ⟨rfl, hw⟩ := hw
      subst hw
      have hP : va_P D vwCl [oM m0 m1 m2 m3 m4 m5 m6 mf, aI cI m1 89 ms] H := hP
      have hD : va_D A [oM m0 m1 m2 m3 m4 m5 m6 mf, aI cI m1 89 ms] := hD
      have J74 : ∀ (ls : Array Slot), lv_has ls 4 [(0, .ref m0), (1, .int (sr_X6_head ms)), (2, .int (j24_0_X6_weighs ms)), (3, .int (j51_0_X6_weighs ms))] → W p l e (ag_rm 4 82) s m ([.ref m0] : List Value).toArray below meth c H locs 0 0 (MQ below (va_Qv (po_X6_weighs cI cC cL m0 m1 m2 m3 m4 m5 m6 mf ms) (ag_Out D [oM m0 m1 m2 m3 m4 m5 m6 mf, aI cI m1 89 ms]) A) ([.ref m0] : List Value).toArray s 0 0 A) (F0 m 74 ls [.int (j74_0_X6_weighs ms), .ref m0]) := by
        intro ls hl
        refine ag_topn (v := xv74_1_X6_weighs ms) rfl (fun x74_1 ex74_1 => ?_)
        refine ag_putX6 hx hb hG hown hK hP hD hS 0 8 rfl (by decide) k_544 (by decide) rfl rfl (Nat.le_of_ble_eq_true rfl) dX6_weighs_74 (fun H locs hP hD hS => ?_)
        have hP : va_P D vwCl [oM m0 m1 m2 m3 m4 m5 m6 (upd mf 3 x74_1), aI cI m1 89 ms] H := hP
        have hD : va_D A [oM m0 m1 m2 m3 m4 m5 m6 (upd mf 3 x74_1), aI cI m1 89 ms] := hD
        refine lv_aload_n hx hb dX6_weighs_77 rfl (lv_at hl 0 rfl) ?_
        refine lv_iload_n hx hb dX6_weighs_78 rfl (lv_at hl 2 rfl) ?_
        have J94 : ∀ (ls : Array Slot), lv_has ls 4 [(0, .ref m0), (1, .int (sr_X6_head ms)), (2, .int (j24_0_X6_weighs ms)), (3, .int (j51_0_X6_weighs ms))] → W p l e (ag_rm 4 82) s m ([.ref m0] : List Value).toArray below meth c H locs 0 0 (MQ below (va_Qv (po_X6_weighs cI cC cL m0 m1 m2 m3 m4 m5 m6 mf ms) (ag_Out D [oM m0 m1 m2 m3 m4 m5 m6 mf, aI cI m1 89 ms]) A) ([.ref m0] : List Value).toArray s 0 0 A) (F0 m 94 ls [.int (j94_0_X6_weighs ms), .ref m0]) := by
          intro ls hl
          refine ag_topn (v := xv94_2_X6_weighs ms) rfl (fun x94_2 ex94_2 => ?_)
          refine ag_putX6 hx hb hG hown hK hP hD hS 0 9 rfl (by decide) k_545 (by decide) rfl rfl (Nat.le_of_ble_eq_true rfl) dX6_weighs_94 (fun H locs hP hD hS => ?_)
          have hP : va_P D vwCl [oM m0 m1 m2 m3 m4 m5 m6 (upd (upd mf 3 x74_1) 4 x94_2), aI cI m1 89 ms] H := hP
          have hD : va_D A [oM m0 m1 m2 m3 m4 m5 m6 (upd (upd mf 3 x74_1) 4 x94_2), aI cI m1 89 ms] := hD
          refine lv_aload_n hx hb dX6_weighs_97 rfl (lv_at hl 0 rfl) ?_
          refine lv_iload_n hx hb dX6_weighs_98 rfl (lv_at hl 3 rfl) ?_
          have J112 : ∀ (ls : Array Slot), lv_has ls 4 [(0, .ref m0), (1, .int (sr_X6_head ms)), (2, .int (j24_0_X6_weighs ms)), (3, .int (j51_0_X6_weighs ms))] → W p l e (ag_rm 4 82) s m ([.ref m0] : List Value).toArray below meth c H locs 0 0 (MQ below (va_Qv (po_X6_weighs cI cC cL m0 m1 m2 m3 m4 m5 m6 mf ms) (ag_Out D [oM m0 m1 m2 m3 m4 m5 m6 mf, aI cI m1 89 ms]) A) ([.ref m0] : List Value).toArray s 0 0 A) (F0 m 112 ls [.int (j112_0_X6_weighs ms), .ref m0]) := by
            intro ls hl
            refine ag_topn (v := xv112_3_X6_weighs ms) rfl (fun x112_3 ex112_3 => ?_)
            refine ag_putX6 hx hb hG hown hK hP hD hS 0 10 rfl (by decide) k_546 (by decide) rfl rfl (Nat.le_of_ble_eq_true rfl) dX6_weighs_112 (fun H locs hP hD hS => ?_)
            have hP : va_P D vwCl [oM m0 m1 m2 m3 m4 m5 m6 (upd (upd (upd mf 3 x74_1) 4 x94_2) 5 x112_3), aI cI m1 89 ms] H := hP
            have hD : va_D A [oM m0 m1 m2 m3 m4 m5 m6 (upd (upd (upd mf 3 x74_1) 4 x94_2) 5 x112_3), aI cI m1 89 ms] := hD
            refine lv_aload_n hx hb dX6_weighs_115 rfl (lv_at hl 0 rfl) ?_
            refine lv_aload_n hx hb dX6_weighs_116 rfl (lv_at hl 0 rfl) ?_
            refine ag_getX6 (v := .int x94_2) hx hb hG hown hK hP 0 9 rfl (by decide) k_545 rfl dX6_weighs_117 ?_
            refine ag_callSi (As := [.int x94_2]) (rest := [.ref m0]) hx hb hml hown hG hK hN hA hP hD hS hl (ct_X6_size l D cI cC cL x94_2) fX6_size k_658 ag_cut_0 rfl (Nat.le_of_ble_eq_true rfl) ⟨Nat.le_of_ble_eq_true rfl, Nat.le_of_ble_eq_true rfl⟩ ⟨Nat.zero_le _, Nat.zero_le _⟩ dX6_weighs_120 (fun r w1 H locs hw hP hD hS => ?_)
            obtain ⟨rfl, hw⟩ := hw
            subst hw
            have hP : va_P D vwCl [oM m0 m1 m2 m3 m4 m5 m6 (upd (upd (upd mf 3 x74_1) 4 x94_2) 5 x112_3), aI cI m1 89 ms] H := hP
            have hD : va_D A [oM m0 m1 m2 m3 m4 m5 m6 (upd (upd (upd mf 3 x74_1) 4 x94_2) 5 x112_3), aI cI m1 89 ms] := hD
            refine lv_iload_n hx hb dX6_weighs_123 rfl (lv_at hl 1 rfl) ?_
            refine ag_callSi (As := [.int (sr_X6_head ms)]) (rest := [.int (sr_X6_size x94_2), .ref m0]) hx hb hml hown hG hK hN hA hP hD hS hl (ct_X6_size l D cI cC cL (sr_X6_head ms)) fX6_size k_658 ag_cut_0 rfl (Nat.le_of_ble_eq_true rfl) ⟨Nat.le_of_ble_eq_true rfl, Nat.le_of_ble_eq_true rfl⟩ ⟨Nat.zero_le _, Nat.zero_le _⟩ dX6_weighs_124 (fun r w1 H locs hw hP hD hS => ?_)
            obtain ⟨rfl, hw⟩ := hw
            subst hw
            have hP : va_P D vwCl [oM m0 m1 m2 m3 m4 m5 m6 (upd (upd (upd mf 3 x74_1) 4 x94_2) 5 x112_3), aI cI m1 89 ms] H := hP
            have hD : va_D A [oM m0 m1 m2 m3 m4 m5 m6 (upd (upd (upd mf 3 x74_1) 4 x94_2) 5 x112_3), aI cI m1 89 ms] := hD
            refine lv_imul hx hb dX6_weighs_127 ?_
            refine lv_bipush (v := 100) hx hb dX6_weighs_128 (by decide) ?_
            refine lv_idiv hx hb dX6_weighs_130 (by decide) ?_
            refine ag_topn (v := xv131_4_X6_weighs ms) (by rw [← ex94_2]; rfl) (fun x131_4 ex131_4 => ?_)
            refine ag_putX6 hx hb hG hown hK hP hD hS 0 12 rfl (by decide) k_548 (by decide) rfl rfl (Nat.le_of_ble_eq_true rfl) dX6_weighs_131 (fun H locs hP hD hS => ?_)
            have hP : va_P D vwCl [oM m0 m1 m2 m3 m4 m5 m6 (upd (upd (upd (upd mf 3 x74_1) 4 x94_2) 5 x112_3) 7 x131_4), aI cI m1 89 ms] H := hP
            have hD : va_D A [oM m0 m1 m2 m3 m4 m5 m6 (upd (upd (upd (upd mf 3 x74_1) 4 x94_2) 5 x112_3) 7 x131_4), aI cI m1 89 ms] := hD
            refine lv_aload_n hx hb dX6_weighs_134 rfl (lv_at hl 0 rfl) ?_
            refine lv_aload_n hx hb dX6_weighs_135 rfl (lv_at hl 0 rfl) ?_
            refine ag_getX6 (v := .int x112_3) hx hb hG hown hK hP 0 10 rfl (by decide) k_546 rfl dX6_weighs_136 ?_
            refine ag_callSi (As := [.int x112_3]) (rest := [.ref m0]) hx hb hml hown hG hK hN hA hP hD hS hl (ct_X6_size l D cI cC cL x112_3) fX6_size k_658 ag_cut_0 rfl (Nat.le_of_ble_eq_true rfl) ⟨Nat.le_of_ble_eq_true rfl, Nat.le_of_ble_eq_true rfl⟩ ⟨Nat.zero_le _, Nat.zero_le _⟩ dX6_weighs_139 (fun r w1 H locs hw hP hD hS => ?_)
            obtain ⟨rfl, hw⟩ := hw
            subst hw
            have hP : va_P D vwCl [oM m0 m1 m2 m3 m4 m5 m6 (upd (upd (upd (upd mf 3 x74_1) 4 x94_2) 5 x112_3) 7 x131_4), aI cI m1 89 ms] H := hP
            have hD : va_D A [oM m0 m1 m2 m3 m4 m5 m6 (upd (upd (upd (upd mf 3 x74_1) 4 x94_2) 5 x112_3) 7 x131_4), aI cI m1 89 ms] := hD
            refine lv_bipush (v := 20) hx hb dX6_weighs_142 (by decide) ?_
            refine lv_iload_n hx hb dX6_weighs_144 rfl (lv_at hl 1 rfl) ?_
            refine ag_callSi (As := [.int (sr_X6_head ms)]) (rest := [.int 20, .int (sr_X6_size x112_3), .ref m0]) hx hb hml hown hG hK hN hA hP hD hS hl (ct_X6_size l D cI cC cL (sr_X6_head ms)) fX6_size k_658 ag_cut_0 rfl (Nat.le_of_ble_eq_true rfl) ⟨Nat.le_of_ble_eq_true rfl, Nat.le_of_ble_eq_true rfl⟩ ⟨Nat.zero_le _, Nat.zero_le _⟩ dX6_weighs_145 (fun r w1 H locs hw hP hD hS => ?_)
            obtain ⟨rfl, hw⟩ := hw
            subst hw
            have hP : va_P D vwCl [oM m0 m1 m2 m3 m4 m5 m6 (upd (upd (upd (upd mf 3 x74_1) 4 x94_2) 5 x112_3) 7 x131_4), aI cI m1 89 ms] H := hP
            have hD : va_D A [oM m0 m1 m2 m3 m4 m5 m6 (upd (upd (upd (upd mf 3 x74_1) 4 x94_2) 5 x112_3) 7 x131_4), aI cI m1 89 ms] := hD
            refine lv_iadd hx hb dX6_weighs_148 ?_
            refine lv_imul hx hb dX6_weighs_149 ?_
            refine lv_bipush (v := 100) hx hb dX6_weighs_150 (by decide) ?_
            refine lv_idiv hx hb dX6_weighs_152 (by decide) ?_
            refine ag_topn (v := xv153_5_X6_weighs ms) (by rw [← ex112_3]; rfl) (fun x153_5 ex153_5 => ?_)
            refine ag_putX6 hx hb hG hown hK hP hD hS 0 13 rfl (by decide) k_549 (by decide) rfl rfl (Nat.le_of_ble_eq_true rfl) dX6_weighs_153 (fun H locs hP hD hS => ?_)
            have hP : va_P D vwCl [oM m0 m1 m2 m3 m4 m5 m6 (upd (upd (upd (upd (upd mf 3 x74_1) 4 x94_2) 5 x112_3) 7 x131_4) 8 x153_5), aI cI m1 89 ms] H := hP
            have hD : va_D A [oM m0 m1 m2 m3 m4 m5 m6 (upd (upd (upd (upd (upd mf 3 x74_1) 4 x94_2) 5 x112_3) 7 x131_4) 8 x153_5), aI cI m1 89 ms] := hD
            refine lv_aload_n hx hb dX6_weighs_156 rfl (lv_at hl 0 rfl) ?_
            refine lv_aload_n hx hb dX6_weighs_157 rfl (lv_at hl 0 rfl) ?_
            refine ag_getX6 (v := .int x74_1) hx hb hG hown hK hP 0 8 rfl (by decide) k_544 rfl dX6_weighs_158 ?_
            refine lv_aload_n hx hb dX6_weighs_161 rfl (lv_at hl 0 rfl) ?_
            refine ag_getX6 (v := .int x94_2) hx hb hG hown hK hP 0 9 rfl (by decide) k_545 rfl dX6_weighs_162 ?_
            refine lv_iadd hx hb dX6_weighs_165 ?_
            refine lv_aload_n hx hb dX6_weighs_166 rfl (lv_at hl 0 rfl) ?_
            refine ag_getX6 (v := .int x112_3) hx hb hG hown hK hP 0 10 rfl (by decide) k_546 rfl dX6_weighs_167 ?_
            refine lv_iadd hx hb dX6_weighs_170 ?_
            refine ag_topn (v := xv171_6_X6_weighs ms) (by rw [← ex74_1, ← ex94_2, ← ex112_3]; rfl) (fun x171_6 ex171_6 => ?_)
            refine ag_putX6 hx hb hG hown hK hP hD hS 0 11 rfl (by decide) k_547 (by decide) rfl rfl (Nat.le_of_ble_eq_true rfl) dX6_weighs_171 (fun H locs hP hD hS => ?_)
            have hP : va_P D vwCl [oM m0 m1 m2 m3 m4 m5 m6 (upd (upd (upd (upd (upd (upd mf 3 x74_1) 4 x94_2) 5 x112_3) 7 x131_4) 8 x153_5) 6 x171_6), aI cI m1 89 ms] H := hP
            have hD : va_D A [oM m0 m1 m2 m3 m4 m5 m6 (upd (upd (upd (upd (upd (upd mf 3 x74_1) 4 x94_2) 5 x112_3) 7 x131_4) 8 x153_5) 6 x171_6), aI cI m1 89 ms] := hD
            refine lv_aload_n hx hb dX6_weighs_174 rfl (lv_at hl 0 rfl) ?_
            refine lv_aload_n hx hb dX6_weighs_175 rfl (lv_at hl 0 rfl) ?_
            refine ag_getX6 (v := .ref m1) hx hb hG hown hK hP 0 0 rfl (by decide) k_536 rfl dX6_weighs_176 ?_
            refine lv_iconst (v := 1) hx hb dX6_weighs_179 (by decide) ?_
            refine ag_ild (k := 1) (v := ms 1) hx hb hK hP 1 rfl rfl (Nat.le_of_ble_eq_true rfl) (Nat.le_of_ble_eq_true rfl) rfl dX6_weighs_180 ?_
            refine lv_aload_n hx hb dX6_weighs_181 rfl (lv_at hl 0 rfl) ?_
            refine ag_getX6 (v := .int x171_6) hx hb hG hown hK hP 0 11 rfl (by decide) k_547 rfl dX6_weighs_182 ?_
            refine lv_iadd hx hb dX6_weighs_185 ?_
            refine lv_ldc (v := 80000) hx hb hown (hG _ k_669) dX6_weighs_186 ?_
            have J231 : ∀ (ls : Array Slot), lv_has ls 4 [(0, .ref m0), (1, .int (sr_X6_head ms)), (2, .int (j24_0_X6_weighs ms)), (3, .int (j51_0_X6_weighs ms))] → W p l e (ag_rm 4 82) s m ([.ref m0] : List Value).toArray below meth c H locs 0 0 (MQ below (va_Qv (po_X6_weighs cI cC cL m0 m1 m2 m3 m4 m5 m6 mf ms) (ag_Out D [oM m0 m1 m2 m3 m4 m5 m6 mf, aI cI m1 89 ms]) A) ([.ref m0] : List Value).toArray s 0 0 A) (F0 m 231 ls [.int (j231_0_X6_weighs ms), .ref m0]) := by
              intro ls hl
              refine ag_topn (v := xv231_7_X6_weighs ms) rfl (fun x231_7 ex231_7 => ?_)
              refine ag_putX6 hx hb hG hown hK hP hD hS 0 11 rfl (by decide) k_547 (by decide) rfl rfl (Nat.le_of_ble_eq_true rfl) dX6_weighs_231 (fun H locs hP hD hS => ?_)
              have hP : va_P D vwCl [oM m0 m1 m2 m3 m4 m5 m6 (upd (upd (upd (upd (upd (upd (upd mf 3 x74_1) 4 x94_2) 5 x112_3) 7 x131_4) 8 x153_5) 6 x171_6) 6 x231_7), aI cI m1 89 ms] H := hP
              have hD : va_D A [oM m0 m1 m2 m3 m4 m5 m6 (upd (upd (upd (upd (upd (upd (upd mf 3 x74_1) 4 x94_2) 5 x112_3) 7 x131_4) 8 x153_5) 6 x171_6) 6 x231_7), aI cI m1 89 ms] := hD
              refine lv_aload_n hx hb dX6_weighs_234 rfl (lv_at hl 0 rfl) ?_
              refine lv_iconst (v := 0) hx hb dX6_weighs_235 (by decide) ?_
              refine ag_putX6 hx hb hG hown hK hP hD hS 0 14 rfl (by decide) k_550 (by decide) rfl rfl (Nat.le_of_ble_eq_true rfl) dX6_weighs_236 (fun H locs hP hD hS => ?_)
              have hP : va_P D vwCl [oM m0 m1 m2 m3 m4 m5 m6 (upd (upd (upd (upd (upd (upd (upd (upd mf 3 x74_1) 4 x94_2) 5 x112_3) 7 x131_4) 8 x153_5) 6 x171_6) 6 x231_7) 9 0), aI cI m1 89 ms] H := hP
              have hD : va_D A [oM m0 m1 m2 m3 m4 m5 m6 (upd (upd (upd (upd (upd (upd (upd (upd mf 3 x74_1) 4 x94_2) 5 x112_3) 7 x131_4) 8 x153_5) 6 x171_6) 6 x231_7) 9 0), aI cI m1 89 ms] := hD
              refine lv_aload_n hx hb dX6_weighs_239 rfl (lv_at hl 0 rfl) ?_
              refine ag_getX6 (v := .int x231_7) hx hb hG hown hK hP 0 11 rfl (by decide) k_547 rfl dX6_weighs_240 ?_
              refine lv_if_le (tgt := 293) hx hb dX6_weighs_243 (by decide) (fun c_243 => ?_) (fun c_243 => ?_)
              · refine lv_aload_n hx hb dX6_weighs_293 rfl (lv_at hl 0 rfl) ?_
                refine ag_getX6 (v := .int x231_7) hx hb hG hown hK hP 0 11 rfl (by decide) k_547 rfl dX6_weighs_294 ?_
                refine lv_aload_n hx hb dX6_weighs_297 rfl (lv_at hl 0 rfl) ?_
                refine ag_getX6 (v := .ref m1) hx hb hG hown hK hP 0 0 rfl (by decide) k_536 rfl dX6_weighs_298 ?_
                refine lv_bipush (v := 10) hx hb dX6_weighs_301 (by decide) ?_
                refine ag_ild (k := 10) (v := ms 10) hx hb hK hP 1 rfl rfl (Nat.le_of_ble_eq_true rfl) (Nat.le_of_ble_eq_true rfl) rfl dX6_weighs_303 ?_
                refine lv_ineg hx hb dX6_weighs_304 ?_
                refine lv_icmp_gt (tgt := 348) hx hb dX6_weighs_305 (by decide) (fun c_305 => ?_) (fun c_305 => ?_)
                · revert hP; revert hD; revert hS; revert hl
                  subst ex231_7
                  subst ex171_6
                  subst ex153_5
                  subst ex131_4
                  subst ex112_3
                  subst ex94_2
                  subst ex74_1
                  intro hl hS hD hP
                  exact ag_vret [m0, m1] hx hb hr hlocks hP hS rfl rfl (by show _ = _; rw [show sw0_X6_weighs mf ms = upd (upd (upd (upd (upd (upd (upd (upd mf 3 (xv74_1_X6_weighs ms)) 4 (xv94_2_X6_weighs ms)) 5 (xv112_3_X6_weighs ms)) 7 (xv131_4_X6_weighs ms)) 8 (xv153_5_X6_weighs ms)) 6 (xv171_6_X6_weighs ms)) 6 (xv231_7_X6_weighs ms)) 9 0 from (by unfold sw0_X6_weighs; rw [if_pos c_243, if_pos c_305])]) dX6_weighs_348
                · refine lv_aload_n hx hb dX6_weighs_308 rfl (lv_at hl 0 rfl) ?_
                  refine lv_aload_n hx hb dX6_weighs_309 rfl (lv_at hl 0 rfl) ?_
                  refine ag_getX6 (v := .int x231_7) hx hb hG hown hK hP 0 11 rfl (by decide) k_547 rfl dX6_weighs_310 ?_
                  refine lv_ineg hx hb dX6_weighs_313 ?_
                  refine lv_bipush (v := 20) hx hb dX6_weighs_314 (by decide) ?_
                  refine lv_idiv hx hb dX6_weighs_316 (by decide) ?_
                  refine lv_aload_n hx hb dX6_weighs_317 rfl (lv_at hl 0 rfl) ?_
                  refine ag_getX6 (v := .ref m1) hx hb hG hown hK hP 0 0 rfl (by decide) k_536 rfl dX6_weighs_318 ?_
                  refine lv_iconst (v := 2) hx hb dX6_weighs_321 (by decide) ?_
                  refine ag_ild (k := 2) (v := ms 2) hx hb hK hP 1 rfl rfl (Nat.le_of_ble_eq_true rfl) (Nat.le_of_ble_eq_true rfl) rfl dX6_weighs_322 ?_
                  have J345 : ∀ (ls : Array Slot), lv_has ls 4 [(0, .ref m0), (1, .int (sr_X6_head ms)), (2, .int (j24_0_X6_weighs ms)), (3, .int (j51_0_X6_weighs ms))] → W p l e (ag_rm 4 82) s m ([.ref m0] : List Value).toArray below meth c H locs 0 0 (MQ below (va_Qv (po_X6_weighs cI cC cL m0 m1 m2 m3 m4 m5 m6 mf ms) (ag_Out D [oM m0 m1 m2 m3 m4 m5 m6 mf, aI cI m1 89 ms]) A) ([.ref m0] : List Value).toArray s 0 0 A) (F0 m 345 ls [.int (j345_0_X6_weighs ms), .ref m0]) := by
                    intro ls hl
                    refine ag_topn (v := xv345_8_X6_weighs ms) rfl (fun x345_8 ex345_8 => ?_)
                    refine ag_putX6 hx hb hG hown hK hP hD hS 0 14 rfl (by decide) k_550 (by decide) rfl rfl (Nat.le_of_ble_eq_true rfl) dX6_weighs_345 (fun H locs hP hD hS => ?_)
                    have hP : va_P D vwCl [oM m0 m1 m2 m3 m4 m5 m6 (upd (upd (upd (upd (upd (upd (upd (upd (upd mf 3 x74_1) 4 x94_2) 5 x112_3) 7 x131_4) 8 x153_5) 6 x171_6) 6 x231_7) 9 0) 9 x345_8), aI cI m1 89 ms] H := hP
                    have hD : va_D A [oM m0 m1 m2 m3 m4 m5 m6 (upd (upd (upd (upd (upd (upd (upd (upd (upd mf 3 x74_1) 4 x94_2) 5 x112_3) 7 x131_4) 8 x153_5) 6 x171_6) 6 x231_7) 9 0) 9 x345_8), aI cI m1 89 ms] := hD
                    revert hP; revert hD; revert hS; revert hl
                    subst ex345_8
                    subst ex231_7
                    subst ex171_6
                    subst ex153_5
                    subst ex131_4
                    subst ex112_3
                    subst ex94_2
                    subst ex74_1
                    intro hl hS hD hP
                    exact ag_vret [m0, m1] hx hb hr hlocks hP hS rfl rfl (by show _ = _; rw [show sw0_X6_weighs mf ms = upd (upd (upd (upd (upd (upd (upd (upd (upd mf 3 (xv74_1_X6_weighs ms)) 4 (xv94_2_X6_weighs ms)) 5 (xv112_3_X6_weighs ms)) 7 (xv131_4_X6_weighs ms)) 8 (xv153_5_X6_weighs ms)) 6 (xv171_6_X6_weighs ms)) 6 (xv231_7_X6_weighs ms)) 9 0) 9 (xv345_8_X6_weighs ms) from (by unfold sw0_X6_weighs; rw [if_pos c_243, if_neg c_305])]) dX6_weighs_348
                  refine lv_icmp_ge (tgt := 338) hx hb dX6_weighs_323 (by decide) (fun c_323 => ?_) (fun c_323 => ?_)
                  · refine lv_aload_n hx hb dX6_weighs_338 rfl (lv_at hl 0 rfl) ?_
                    refine ag_getX6 (v := .ref m1) hx hb hG hown hK hP 0 0 rfl (by decide) k_536 rfl dX6_weighs_339 ?_
                    refine lv_iconst (v := 2) hx hb dX6_weighs_342 (by decide) ?_
                    refine ag_ild (k := 2) (v := ms 2) hx hb hK hP 1 rfl rfl (Nat.le_of_ble_eq_true rfl) (Nat.le_of_ble_eq_true rfl) rfl dX6_weighs_343 ?_
                    refine lv_ineg hx hb dX6_weighs_344 ?_
                    revert hP; revert hD; revert hS; revert hl
                    subst ex231_7
                    subst ex171_6
                    subst ex153_5
                    subst ex131_4
                    subst ex112_3
                    subst ex94_2
                    subst ex74_1
                    intro hl hS hD hP
                    simp only [j345_0_X6_weighs, if_pos c_323] at J345
                    exact J345 _ (lv_sub hl [0, 1, 2, 3] rfl)
                  · refine lv_aload_n hx hb dX6_weighs_326 rfl (lv_at hl 0 rfl) ?_
                    refine ag_getX6 (v := .int x231_7) hx hb hG hown hK hP 0 11 rfl (by decide) k_547 rfl dX6_weighs_327 ?_
                    refine lv_ineg hx hb dX6_weighs_330 ?_
                    refine lv_bipush (v := 20) hx hb dX6_weighs_331 (by decide) ?_
                    refine lv_idiv hx hb dX6_weighs_333 (by decide) ?_
                    refine lv_ineg hx hb dX6_weighs_334 ?_
                    refine lv_goto (tgt := 345) hx hb dX6_weighs_335 (by decide) ?_
                    revert hP; revert hD; revert hS; revert hl
                    subst ex231_7
                    subst ex171_6
                    subst ex153_5
                    subst ex131_4
                    subst ex112_3
                    subst ex94_2
                    subst ex74_1
                    intro hl hS hD hP
                    simp only [j345_0_X6_weighs, if_neg c_323] at J345
                    exact J345 _ (lv_sub hl [0, 1, 2, 3] rfl)
              · refine lv_aload_n hx hb dX6_weighs_246 rfl (lv_at hl 0 rfl) ?_
                refine lv_aload_n hx hb dX6_weighs_247 rfl (lv_at hl 0 rfl) ?_
                refine ag_getX6 (v := .int x231_7) hx hb hG hown hK hP 0 11 rfl (by decide) k_547 rfl dX6_weighs_248 ?_
                refine lv_bipush (v := 50) hx hb dX6_weighs_251 (by decide) ?_
                refine lv_idiv hx hb dX6_weighs_253 (by decide) ?_
                refine lv_sipush (v := 20000) hx hb dX6_weighs_254 (by decide) ?_
                refine lv_aload_n hx hb dX6_weighs_257 rfl (lv_at hl 0 rfl) ?_
                refine ag_getX6 (v := .ref m1) hx hb hG hown hK hP 0 0 rfl (by decide) k_536 rfl dX6_weighs_258 ?_
                refine lv_iconst (v := 2) hx hb dX6_weighs_261 (by decide) ?_
                refine ag_ild (k := 2) (v := ms 2) hx hb hK hP 1 rfl rfl (Nat.le_of_ble_eq_true rfl) (Nat.le_of_ble_eq_true rfl) rfl dX6_weighs_262 ?_
                refine lv_isub hx hb dX6_weighs_263 ?_
                have J287 : ∀ (ls : Array Slot), lv_has ls 4 [(0, .ref m0), (1, .int (sr_X6_head ms)), (2, .int (j24_0_X6_weighs ms)), (3, .int (j51_0_X6_weighs ms))] → W p l e (ag_rm 4 82) s m ([.ref m0] : List Value).toArray below meth c H locs 0 0 (MQ below (va_Qv (po_X6_weighs cI cC cL m0 m1 m2 m3 m4 m5 m6 mf ms) (ag_Out D [oM m0 m1 m2 m3 m4 m5 m6 mf, aI cI m1 89 ms]) A) ([.ref m0] : List Value).toArray s 0 0 A) (F0 m 287 ls [.int (j287_0_X6_weighs ms), .ref m0]) := by
                  intro ls hl
                  refine ag_topn (v := xv287_9_X6_weighs ms) rfl (fun x287_9 ex287_9 => ?_)
                  refine ag_putX6 hx hb hG hown hK hP hD hS 0 14 rfl (by decide) k_550 (by decide) rfl rfl (Nat.le_of_ble_eq_true rfl) dX6_weighs_287 (fun H locs hP hD hS => ?_)
                  have hP : va_P D vwCl [oM m0 m1 m2 m3 m4 m5 m6 (upd (upd (upd (upd (upd (upd (upd (upd (upd mf 3 x74_1) 4 x94_2) 5 x112_3) 7 x131_4) 8 x153_5) 6 x171_6) 6 x231_7) 9 0) 9 x287_9), aI cI m1 89 ms] H := hP
                  have hD : va_D A [oM m0 m1 m2 m3 m4 m5 m6 (upd (upd (upd (upd (upd (upd (upd (upd (upd mf 3 x74_1) 4 x94_2) 5 x112_3) 7 x131_4) 8 x153_5) 6 x171_6) 6 x231_7) 9 0) 9 x287_9), aI cI m1 89 ms] := hD
                  refine lv_goto (tgt := 348) hx hb dX6_weighs_290 (by decide) ?_
                  revert hP; revert hD; revert hS; revert hl
                  subst ex287_9
                  subst ex231_7
                  subst ex171_6
                  subst ex153_5
                  subst ex131_4
                  subst ex112_3
                  subst ex94_2
                  subst ex74_1
                  intro hl hS hD hP
                  exact ag_vret [m0, m1] hx hb hr hlocks hP hS rfl rfl (by show _ = _; rw [show sw0_X6_weighs mf ms = upd (upd (upd (upd (upd (upd (upd (upd (upd mf 3 (xv74_1_X6_weighs ms)) 4 (xv94_2_X6_weighs ms)) 5 (xv112_3_X6_weighs ms)) 7 (xv131_4_X6_weighs ms)) 8 (xv153_5_X6_weighs ms)) 6 (xv171_6_X6_weighs ms)) 6 (xv231_7_X6_weighs ms)) 9 0) 9 (xv287_9_X6_weighs ms) from (by unfold sw0_X6_weighs; rw [if_neg c_243])]) dX6_weighs_348
                refine lv_icmp_ge (tgt := 277) hx hb dX6_weighs_264 (by decide) (fun c_264 => ?_) (fun c_264 => ?_)
                · refine lv_sipush (v := 20000) hx hb dX6_weighs_277 (by decide) ?_
                  refine lv_aload_n hx hb dX6_weighs_280 rfl (lv_at hl 0 rfl) ?_
                  refine ag_getX6 (v := .ref m1) hx hb hG hown hK hP 0 0 rfl (by decide) k_536 rfl dX6_weighs_281 ?_
                  refine lv_iconst (v := 2) hx hb dX6_weighs_284 (by decide) ?_
                  refine ag_ild (k := 2) (v := ms 2) hx hb hK hP 1 rfl rfl (Nat.le_of_ble_eq_true rfl) (Nat.le_of_ble_eq_true rfl) rfl dX6_weighs_285 ?_
                  refine lv_isub hx hb dX6_weighs_286 ?_
                  revert hP; revert hD; revert hS; revert hl
                  subst ex231_7
                  subst ex171_6
                  subst ex153_5
                  subst ex131_4
                  subst ex112_3
                  subst ex94_2
                  subst ex74_1
                  intro hl hS hD hP
                  simp only [j287_0_X6_weighs, if_pos c_264] at J287
                  exact J287 _ (lv_sub hl [0, 1, 2, 3] rfl)
                · refine lv_aload_n hx hb dX6_weighs_267 rfl (lv_at hl 0 rfl) ?_
                  refine ag_getX6 (v := .int x231_7) hx hb hG hown hK hP 0 11 rfl (by decide) k_547 rfl dX6_weighs_268 ?_
                  refine lv_bipush (v := 50) hx hb dX6_weighs_271 (by decide) ?_
                  refine lv_idiv hx hb dX6_weighs_273 (by decide) ?_
                  refine lv_goto (tgt := 287) hx hb dX6_weighs_274 (by decide) ?_
                  revert hP; revert hD; revert hS; revert hl
                  subst ex231_7
                  subst ex171_6
                  subst ex153_5
                  subst ex131_4
                  subst ex112_3
                  subst ex94_2
                  subst ex74_1
                  intro hl hS hD hP
                  simp only [j287_0_X6_weighs, if_neg c_264] at J287
                  exact J287 _ (lv_sub hl [0, 1, 2, 3] rfl)
            refine lv_icmp_le (tgt := 203) hx hb dX6_weighs_188 (by decide) (fun c_188 => ?_) (fun c_188 => ?_)
            · refine lv_aload_n hx hb dX6_weighs_203 rfl (lv_at hl 0 rfl) ?_
              refine ag_getX6 (v := .ref m1) hx hb hG hown hK hP 0 0 rfl (by decide) k_536 rfl dX6_weighs_204 ?_
              refine lv_iconst (v := 1) hx hb dX6_weighs_207 (by decide) ?_
              refine ag_ild (k := 1) (v := ms 1) hx hb hK hP 1 rfl rfl (Nat.le_of_ble_eq_true rfl) (Nat.le_of_ble_eq_true rfl) rfl dX6_weighs_208 ?_
              refine lv_aload_n hx hb dX6_weighs_209 rfl (lv_at hl 0 rfl) ?_
              refine ag_getX6 (v := .int x171_6) hx hb hG hown hK hP 0 11 rfl (by decide) k_547 rfl dX6_weighs_210 ?_
              refine lv_iadd hx hb dX6_weighs_213 ?_
              refine lv_if_ge (tgt := 227) hx hb dX6_weighs_214 (by decide) (fun c_214 => ?_) (fun c_214 => ?_)
              · refine lv_aload_n hx hb dX6_weighs_227 rfl (lv_at hl 0 rfl) ?_
                refine ag_getX6 (v := .int x171_6) hx hb hG hown hK hP 0 11 rfl (by decide) k_547 rfl dX6_weighs_228 ?_
                revert hP; revert hD; revert hS; revert hl
                subst ex171_6
                subst ex153_5
                subst ex131_4
                subst ex112_3
                subst ex94_2
                subst ex74_1
                intro hl hS hD hP
                simp only [j231_0_X6_weighs, if_pos c_188, if_pos c_214] at J231
                exact J231 _ (lv_sub hl [0, 1, 2, 3] rfl)
              · refine lv_aload_n hx hb dX6_weighs_217 rfl (lv_at hl 0 rfl) ?_
                refine ag_getX6 (v := .ref m1) hx hb hG hown hK hP 0 0 rfl (by decide) k_536 rfl dX6_weighs_218 ?_
                refine lv_iconst (v := 1) hx hb dX6_weighs_221 (by decide) ?_
                refine ag_ild (k := 1) (v := ms 1) hx hb hK hP 1 rfl rfl (Nat.le_of_ble_eq_true rfl) (Nat.le_of_ble_eq_true rfl) rfl dX6_weighs_222 ?_
                refine lv_ineg hx hb dX6_weighs_223 ?_
                refine lv_goto (tgt := 231) hx hb dX6_weighs_224 (by decide) ?_
                revert hP; revert hD; revert hS; revert hl
                subst ex171_6
                subst ex153_5
                subst ex131_4
                subst ex112_3
                subst ex94_2
                subst ex74_1
                intro hl hS hD hP
                simp only [j231_0_X6_weighs, if_pos c_188, if_neg c_214] at J231
                exact J231 _ (lv_sub hl [0, 1, 2, 3] rfl)
            · refine lv_ldc (v := 80000) hx hb hown (hG _ k_669) dX6_weighs_191 ?_
              refine lv_aload_n hx hb dX6_weighs_193 rfl (lv_at hl 0 rfl) ?_
              refine ag_getX6 (v := .ref m1) hx hb hG hown hK hP 0 0 rfl (by decide) k_536 rfl dX6_weighs_194 ?_
              refine lv_iconst (v := 1) hx hb dX6_weighs_197 (by decide) ?_
              refine ag_ild (k := 1) (v := ms 1) hx hb hK hP 1 rfl rfl (Nat.le_of_ble_eq_true rfl) (Nat.le_of_ble_eq_true rfl) rfl dX6_weighs_198 ?_
              refine lv_isub hx hb dX6_weighs_199 ?_
              refine lv_goto (tgt := 231) hx hb dX6_weighs_200 (by decide) ?_
              revert hP; revert hD; revert hS; revert hl
              subst ex171_6
              subst ex153_5
              subst ex131_4
              subst ex112_3
              subst ex94_2
              subst ex74_1
              intro hl hS hD hP
              simp only [j231_0_X6_weighs, if_neg c_188] at J231
              exact J231 _ (lv_sub hl [0, 1, 2, 3] rfl)
          refine lv_if_eq (tgt := 111) hx hb dX6_weighs_99 (by decide) (fun c_99 => ?_) (fun c_99 => ?_)
          · refine lv_iconst (v := 0) hx hb dX6_weighs_111 (by decide) ?_
            revert hP; revert hD; revert hS; revert hl
            subst ex94_2
            subst ex74_1
            intro hl hS hD hP
            simp only [j112_0_X6_weighs, if_pos c_99] at J112
            exact J112 _ (lv_sub hl [0, 1, 2, 3] rfl)
          · refine lv_aload_n hx hb dX6_weighs_102 rfl (lv_at hl 0 rfl) ?_
            refine ag_getX6 (v := .ref m1) hx hb hG hown hK hP 0 0 rfl (by decide) k_536 rfl dX6_weighs_103 ?_
            refine lv_iconst (v := 5) hx hb dX6_weighs_106 (by decide) ?_
            refine ag_ild (k := 5) (v := ms 5) hx hb hK hP 1 rfl rfl (Nat.le_of_ble_eq_true rfl) (Nat.le_of_ble_eq_true rfl) rfl dX6_weighs_107 ?_
            refine lv_goto (tgt := 112) hx hb dX6_weighs_108 (by decide) ?_
            revert hP; revert hD; revert hS; revert hl
            subst ex94_2
            subst ex74_1
            intro hl hS hD hP
            simp only [j112_0_X6_weighs, if_neg c_99] at J112
            exact J112 _ (lv_sub hl [0, 1, 2, 3] rfl)
        refine lv_if_eq (tgt := 93) hx hb dX6_weighs_79 (by decide) (fun c_79 => ?_) (fun c_79 => ?_)
        · refine lv_iconst (v := 0) hx hb dX6_weighs_93 (by decide) ?_
          revert hP; revert hD; revert hS; revert hl
          subst ex74_1
          intro hl hS hD hP
          simp only [j94_0_X6_weighs, if_pos c_79] at J94
          exact J94 _ (lv_sub hl [0, 1, 2, 3] rfl)
        · refine lv_aload_n hx hb dX6_weighs_82 rfl (lv_at hl 0 rfl) ?_
          refine ag_getX6 (v := .ref m1) hx hb hG hown hK hP 0 0 rfl (by decide) k_536 rfl dX6_weighs_83 ?_
          refine lv_iconst (v := 4) hx hb dX6_weighs_86 (by decide) ?_
          refine ag_ild (k := 4) (v := ms 4) hx hb hK hP 1 rfl rfl (Nat.le_of_ble_eq_true rfl) (Nat.le_of_ble_eq_true rfl) rfl dX6_weighs_87 ?_
          refine lv_iload_n hx hb dX6_weighs_88 rfl (lv_at hl 1 rfl) ?_
          refine lv_imul hx hb dX6_weighs_89 ?_
          refine lv_goto (tgt := 94) hx hb dX6_weighs_90 (by decide) ?_
          revert hP; revert hD; revert hS; revert hl
          subst ex74_1
          intro hl hS hD hP
          simp only [j94_0_X6_weighs, if_neg c_79] at J94
          exact J94 _ (lv_sub hl [0, 1, 2, 3] rfl)
      refine lv_if_eq (tgt := 64) hx hb dX6_weighs_57 (by decide) (fun c_57 => ?_) (fun c_57 => ?_)
      · refine lv_aload_n hx hb dX6_weighs_64 rfl (lv_at hl 1 rfl) ?_
        refine ag_getX6 (v := .ref m1) hx hb hG hown hK hP 0 0 rfl (by decide) k_536 rfl dX6_weighs_65 ?_
        refine lv_iconst (v := 3) hx hb dX6_weighs_68 (by decide) ?_
        refine ag_ild (k := 3) (v := ms 3) hx hb hK hP 1 rfl rfl (Nat.le_of_ble_eq_true rfl) (Nat.le_of_ble_eq_true rfl) rfl dX6_weighs_69 ?_
        refine lv_iload_n hx hb dX6_weighs_70 rfl (lv_at hl 2 rfl) ?_
        refine lv_imul hx hb dX6_weighs_71 ?_
        refine lv_iconst (v := 2) hx hb dX6_weighs_72 (by decide) ?_
        refine lv_imul hx hb dX6_weighs_73 ?_
        simp only [j74_0_X6_weighs, if_pos c_57] at J74
        exact J74 _ (lv_sub hl [1, 2, 3, 0] rfl)
      · refine lv_iconst (v := 0) hx hb dX6_weighs_60 (by decide) ?_
        refine lv_goto (tgt := 74) hx hb dX6_weighs_61 (by decide) ?_
        simp only [j74_0_X6_weighs, if_neg c_57] at J74
        exact J74 _ (lv_sub hl [1, 2, 3, 0] rfl)
    refine lv_if_ne (tgt := 50) hx hb dX6_weighs_29 (by decide) (fun c_29 => ?_) (fun c_29 => ?_)
    · refine lv_iconst (v := 0) hx hb dX6_weighs_50 (by decide) ?_
      simp only [j51_0_X6_weighs, if_neg c_29] at J51
      exact J51 H locs hP hD hS _ (lv_sub hl [1, 2, 0] rfl)
    · refine lv_iload_n hx hb dX6_weighs_32 rfl (lv_at hl 2 rfl) ?_
      refine ag_callSi (As := [.int (sr_X6_head ms)]) (rest := []) hx hb hml hown hG hK hN hA hP hD hS hl (ct_X6_size l D cI cC cL (sr_X6_head ms)) fX6_size k_658 ag_cut_0 rfl (Nat.le_of_ble_eq_true rfl) ⟨Nat.le_of_ble_eq_true rfl, Nat.le_of_ble_eq_true rfl⟩ ⟨Nat.zero_le _, Nat.zero_le _⟩ dX6_weighs_33 (fun r w1 H locs hw hP hD hS => ?_)
      obtain ⟨rfl, hw⟩ := hw
      subst hw
      have hP : va_P D vwCl [oM m0 m1 m2 m3 m4 m5 m6 mf, aI cI m1 89 ms] H := hP
      have hD : va_D A [oM m0 m1 m2 m3 m4 m5 m6 mf, aI cI m1 89 ms] := hD
      refine lv_aload_n hx hb dX6_weighs_36 rfl (lv_at hl 1 rfl) ?_
      refine ag_getX6 (v := .ref m1) hx hb hG hown hK hP 0 0 rfl (by decide) k_536 rfl dX6_weighs_37 ?_
      refine lv_bipush (v := 9) hx hb dX6_weighs_40 (by decide) ?_
      refine ag_ild (k := 9) (v := ms 9) hx hb hK hP 1 rfl rfl (Nat.le_of_ble_eq_true rfl) (Nat.le_of_ble_eq_true rfl) rfl dX6_weighs_42 ?_
      refine lv_icmp_gt (tgt := 50) hx hb dX6_weighs_43 (by decide) (fun c_43 => ?_) (fun c_43 => ?_)
      · refine lv_iconst (v := 0) hx hb dX6_weighs_50 (by decide) ?_
        simp only [j51_0_X6_weighs, if_pos c_29, if_pos c_43] at J51
        exact J51 H locs hP hD hS _ (lv_sub hl [1, 2, 0] rfl)
      · refine lv_iconst (v := 1) hx hb dX6_weighs_46 (by decide) ?_
        refine lv_goto (tgt := 51) hx hb dX6_weighs_47 (by decide) ?_
        simp only [j51_0_X6_weighs, if_pos c_29, if_neg c_43] at J51
        exact J51 H locs hP hD hS _ (lv_sub hl [1, 2, 0] rfl)
  refine lv_icmp_lt (tgt := 23) hx hb dX6_weighs_16 (by decide) (fun c_16 => ?_) (fun c_16 => ?_)
  · refine lv_iconst (v := 0) hx hb dX6_weighs_23 (by decide) ?_
    simp only [j24_0_X6_weighs, if_pos c_16] at J24
    exact J24 _ (lv_sub hl [1, 0] rfl)
  · refine lv_iconst (v := 1) hx hb dX6_weighs_19 (by decide) ?_
    refine lv_goto (tgt := 24) hx hb dX6_weighs_20 (by decide) ?_
    simp only [j24_0_X6_weighs, if_neg c_16] at J24
    exact J24 _ (lv_sub hl [1, 0] rfl)
def gv14_1_X6_next (mf : Nat → Int32) (ms : Nat → Int32) : Nat → Int32 := sw0_X6_weighs mf ms
def sr_X6_next (mf : Nat → Int32) (ms : Nat → Int32) (p1 : Int32) : Int32 := if (sr_X6_in p1 0 6) = 0 then (-1000000001) else if p1 = 0 then (gv14_1_X6_next mf ms) 3 else if p1 = 1 then (gv14_1_X6_next mf ms) 4 else if p1 = 2 then (gv14_1_X6_next mf ms) 5 else if p1 = 3 then (gv14_1_X6_next mf ms) 6 else if p1 = 4 then (gv14_1_X6_next mf ms) 7 else if p1 = 5 then (gv14_1_X6_next mf ms) 8 else (gv14_1_X6_next mf ms) 9
def sw0_X6_next (mf : Nat → Int32) (ms : Nat → Int32) (p1 : Int32) : Nat → Int32 := if (sr_X6_in p1 0 6) = 0 then mf else (gv14_1_X6_next mf ms)
abbrev po_X6_next (cI cC cL : ClassId) (m0 m1 m2 m3 m4 m5 m6 : Nat) (mf ms : Nat → Int32) (p1 : Int32) : Int32 → va_W → Prop := fun r w' => sr_X6_next mf ms p1 = r ∧ [oM m0 m1 m2 m3 m4 m5 m6 (sw0_X6_next mf ms p1), aI cI m1 89 ms] = w'
set_option maxHeartbeats 4000000 in
set_option maxRecDepth 100000 in
theorem ct_X6_next (l : Launch) (D : va_G) (cI cC cL : ClassId) (m0 m1 m2 m3 m4 m5 m6 : Nat) (mf ms : Nat → Int32) (p1 : Int32) : ag_MI l yX6_next cX6_next 2 .int 5 105 D cI cC cL [.ref m0, .int p1] [oM m0 m1 m2 m3 m4 m5 m6 mf, aI cI m1 89 ms] (po_X6_next cI cC cL m0 m1 m2 m3 m4 m5 m6 mf ms p1) := by
  refine ag_MI.of (plainFor_of_name (by decide)) (Nat.le_of_ble_eq_true rfl) ?_
  intro p e s m below meth c hx hb hr hlocks hml hown hmn hG hK A hN hA H locs hP hD hS ls hl
  have hl : lv_has ls 2 [(0, .ref m0), (1, .int p1)] := hl
  refine lv_iload_n hx hb dX6_next_0 rfl (lv_at hl 1 rfl) ?_
  refine lv_iconst (v := 0) hx hb dX6_next_1 (by decide) ?_
  refine lv_bipush (v := 6) hx hb dX6_next_2 (by decide) ?_
  refine ag_callSi (As := [.int p1, .int 0, .int 6]) (rest := []) hx hb hml hown hG hK hN hA hP hD hS hl (ct_X6_in l D cI cC cL p1 0 6) fX6_in k_607 ag_cut_0 rfl (Nat.le_of_ble_eq_true rfl) ⟨Nat.le_of_ble_eq_true rfl, Nat.le_of_ble_eq_true rfl⟩ ⟨Nat.zero_le _, Nat.zero_le _⟩ dX6_next_4 (fun r w1 H locs hw hP hD hS => ?_)
  obtain ⟨rfl, hw⟩ := hw
  subst hw
  have hP : va_P D vwCl [oM m0 m1 m2 m3 m4 m5 m6 mf, aI cI m1 89 ms] H := hP
  have hD : va_D A [oM m0 m1 m2 m3 m4 m5 m6 mf, aI cI m1 89 ms] := hD
  refine lv_if_ne (tgt := 13) hx hb dX6_next_7 (by decide) (fun c_7 => ?_) (fun c_7 => ?_)
  · refine lv_aload_n hx hb dX6_next_13 rfl (lv_at hl 0 rfl) ?_
    refine ag_callVv (As := []) (rest := []) hx hb hml hown hG hK hN hA hP hD hS hl (ct_X6_weighs l D cI cC cL m0 m1 m2 m3 m4 m5 m6 mf ms) fX6_weighs k_644 ag_cut_all (q0 := 0) rfl rfl rfl rfl (Nat.le_of_ble_eq_true rfl) ⟨Nat.le_of_ble_eq_true rfl, Nat.le_of_ble_eq_true rfl⟩ ⟨Nat.zero_le _, Nat.zero_le _⟩ dX6_next_14 (fun w1 H locs hw hP hD hS => ?_)
    have hw : _ = w1 := hw
    generalize eg14_1 : sw0_X6_weighs mf ms = g14_1 at hw
    replace eg14_1 : gv14_1_X6_next mf ms = g14_1 := (by rw [← eg14_1]; rfl)
    subst hw
    have hP : va_P D vwCl [oM m0 m1 m2 m3 m4 m5 m6 g14_1, aI cI m1 89 ms] H := hP
    have hD : va_D A [oM m0 m1 m2 m3 m4 m5 m6 g14_1, aI cI m1 89 ms] := hD
    refine lv_iload_n hx hb dX6_next_17 rfl (lv_at hl 1 rfl) ?_
    by_cases c_18_0 : p1 = 0
    · refine lv_tableIn (off := 38) (tgt := 56) hx hb dX6_next_18 (by rw [c_18_0]; decide) (by rw [c_18_0]; decide) (by rw [c_18_0]; rfl) (by decide) ?_
      refine lv_aload_n hx hb dX6_next_56 rfl (lv_at hl 0 rfl) ?_
      refine ag_getX6 (v := .int (g14_1 3)) hx hb hG hown hK hP 0 8 rfl (by decide) k_544 rfl dX6_next_57 ?_
      revert hP; revert hD; revert hS; revert hl
      subst eg14_1
      intro hl hS hD hP
      exact ag_iret [m0, m1] hx hb hr rfl hlocks hP hS rfl rfl ⟨(by unfold sr_X6_next; rw [if_neg c_7, if_pos c_18_0]), (by show _ = _; rw [show sw0_X6_next mf ms p1 = (gv14_1_X6_next mf ms) from (by unfold sw0_X6_next; rw [if_neg c_7])])⟩ dX6_next_60
    · by_cases c_18_1 : p1 = 1
      · refine lv_tableIn (off := 43) (tgt := 61) hx hb dX6_next_18 (by rw [c_18_1]; decide) (by rw [c_18_1]; decide) (by rw [c_18_1]; rfl) (by decide) ?_
        refine lv_aload_n hx hb dX6_next_61 rfl (lv_at hl 0 rfl) ?_
        refine ag_getX6 (v := .int (g14_1 4)) hx hb hG hown hK hP 0 9 rfl (by decide) k_545 rfl dX6_next_62 ?_
        revert hP; revert hD; revert hS; revert hl
        subst eg14_1
        intro hl hS hD hP
        exact ag_iret [m0, m1] hx hb hr rfl hlocks hP hS rfl rfl ⟨(by unfold sr_X6_next; rw [if_neg c_7, if_neg c_18_0, if_pos c_18_1]), (by show _ = _; rw [show sw0_X6_next mf ms p1 = (gv14_1_X6_next mf ms) from (by unfold sw0_X6_next; rw [if_neg c_7])])⟩ dX6_next_65
      · by_cases c_18_2 : p1 = 2
        · refine lv_tableIn (off := 48) (tgt := 66) hx hb dX6_next_18 (by rw [c_18_2]; decide) (by rw [c_18_2]; decide) (by rw [c_18_2]; rfl) (by decide) ?_
          refine lv_aload_n hx hb dX6_next_66 rfl (lv_at hl 0 rfl) ?_
          refine ag_getX6 (v := .int (g14_1 5)) hx hb hG hown hK hP 0 10 rfl (by decide) k_546 rfl dX6_next_67 ?_
          revert hP; revert hD; revert hS; revert hl
          subst eg14_1
          intro hl hS hD hP
          exact ag_iret [m0, m1] hx hb hr rfl hlocks hP hS rfl rfl ⟨(by unfold sr_X6_next; rw [if_neg c_7, if_neg c_18_0, if_neg c_18_1, if_pos c_18_2]), (by show _ = _; rw [show sw0_X6_next mf ms p1 = (gv14_1_X6_next mf ms) from (by unfold sw0_X6_next; rw [if_neg c_7])])⟩ dX6_next_70
        · by_cases c_18_3 : p1 = 3
          · refine lv_tableIn (off := 53) (tgt := 71) hx hb dX6_next_18 (by rw [c_18_3]; decide) (by rw [c_18_3]; decide) (by rw [c_18_3]; rfl) (by decide) ?_
            refine lv_aload_n hx hb dX6_next_71 rfl (lv_at hl 0 rfl) ?_
            refine ag_getX6 (v := .int (g14_1 6)) hx hb hG hown hK hP 0 11 rfl (by decide) k_547 rfl dX6_next_72 ?_
            revert hP; revert hD; revert hS; revert hl
            subst eg14_1
            intro hl hS hD hP
            exact ag_iret [m0, m1] hx hb hr rfl hlocks hP hS rfl rfl ⟨(by unfold sr_X6_next; rw [if_neg c_7, if_neg c_18_0, if_neg c_18_1, if_neg c_18_2, if_pos c_18_3]), (by show _ = _; rw [show sw0_X6_next mf ms p1 = (gv14_1_X6_next mf ms) from (by unfold sw0_X6_next; rw [if_neg c_7])])⟩ dX6_next_75
          · by_cases c_18_4 : p1 = 4
            · refine lv_tableIn (off := 58) (tgt := 76) hx hb dX6_next_18 (by rw [c_18_4]; decide) (by rw [c_18_4]; decide) (by rw [c_18_4]; rfl) (by decide) ?_
              refine lv_aload_n hx hb dX6_next_76 rfl (lv_at hl 0 rfl) ?_
              refine ag_getX6 (v := .int (g14_1 7)) hx hb hG hown hK hP 0 12 rfl (by decide) k_548 rfl dX6_next_77 ?_
              revert hP; revert hD; revert hS; revert hl
              subst eg14_1
              intro hl hS hD hP
              exact ag_iret [m0, m1] hx hb hr rfl hlocks hP hS rfl rfl ⟨(by unfold sr_X6_next; rw [if_neg c_7, if_neg c_18_0, if_neg c_18_1, if_neg c_18_2, if_neg c_18_3, if_pos c_18_4]), (by show _ = _; rw [show sw0_X6_next mf ms p1 = (gv14_1_X6_next mf ms) from (by unfold sw0_X6_next; rw [if_neg c_7])])⟩ dX6_next_80
            · by_cases c_18_5 : p1 = 5
              · refine lv_tableIn (off := 63) (tgt := 81) hx hb dX6_next_18 (by rw [c_18_5]; decide) (by rw [c_18_5]; decide) (by rw [c_18_5]; rfl) (by decide) ?_
                refine lv_aload_n hx hb dX6_next_81 rfl (lv_at hl 0 rfl) ?_
                refine ag_getX6 (v := .int (g14_1 8)) hx hb hG hown hK hP 0 13 rfl (by decide) k_549 rfl dX6_next_82 ?_
                revert hP; revert hD; revert hS; revert hl
                subst eg14_1
                intro hl hS hD hP
                exact ag_iret [m0, m1] hx hb hr rfl hlocks hP hS rfl rfl ⟨(by unfold sr_X6_next; rw [if_neg c_7, if_neg c_18_0, if_neg c_18_1, if_neg c_18_2, if_neg c_18_3, if_neg c_18_4, if_pos c_18_5]), (by show _ = _; rw [show sw0_X6_next mf ms p1 = (gv14_1_X6_next mf ms) from (by unfold sw0_X6_next; rw [if_neg c_7])])⟩ dX6_next_85
              · refine lv_tableOut (tgt := 86) hx hb dX6_next_18 (by have h0 := lv_neT c_18_0 (a := 0) rfl; have h1 := lv_neT c_18_1 (a := 1) rfl; have h2 := lv_neT c_18_2 (a := 2) rfl; have h3 := lv_neT c_18_3 (a := 3) rfl; have h4 := lv_neT c_18_4 (a := 4) rfl; have h5 := lv_neT c_18_5 (a := 5) rfl; omega) (by decide) ?_
                refine lv_aload_n hx hb dX6_next_86 rfl (lv_at hl 0 rfl) ?_
                refine ag_getX6 (v := .int (g14_1 9)) hx hb hG hown hK hP 0 14 rfl (by decide) k_550 rfl dX6_next_87 ?_
                revert hP; revert hD; revert hS; revert hl
                subst eg14_1
                intro hl hS hD hP
                exact ag_iret [m0, m1] hx hb hr rfl hlocks hP hS rfl rfl ⟨(by unfold sr_X6_next; rw [if_neg c_7, if_neg c_18_0, if_neg c_18_1, if_neg c_18_2, if_neg c_18_3, if_neg c_18_4, if_neg c_18_5]), (by show _ = _; rw [show sw0_X6_next mf ms p1 = (gv14_1_X6_next mf ms) from (by unfold sw0_X6_next; rw [if_neg c_7])])⟩ dX6_next_90
  · refine lv_ldc (v := (-1000000001)) hx hb hown (hG _ k_618) dX6_next_10 ?_
    exact ag_iret [m0, m1] hx hb hr rfl hlocks hP hS rfl rfl ⟨(by unfold sr_X6_next; rw [if_pos c_7]), (by show _ = _; rw [show sw0_X6_next mf ms p1 = mf from (by unfold sw0_X6_next; rw [if_pos c_7])])⟩ dX6_next_12
def sr_X6_sea (p1 : Int32) : Int32 := if (sr_X6_in p1 0 9999) = 0 then (-1000000001) else sr_X6_seaLevel p1
abbrev po_X6_sea (cI cC cL : ClassId) (m0 m1 m2 m3 m4 m5 m6 : Nat) (mf : Nat → Int32) (p1 : Int32) : Int32 → va_W → Prop := fun r w' => sr_X6_sea p1 = r ∧ [oM m0 m1 m2 m3 m4 m5 m6 mf] = w'
set_option maxHeartbeats 4000000 in
set_option maxRecDepth 100000 in
theorem ct_X6_sea (l : Launch) (D : va_G) (cI cC cL : ClassId) (m0 m1 m2 m3 m4 m5 m6 : Nat) (mf : Nat → Int32) (p1 : Int32) : ag_MI l yX6_sea cX6_sea 2 .int 3 62 D cI cC cL [.ref m0, .int p1] [oM m0 m1 m2 m3 m4 m5 m6 mf] (po_X6_sea cI cC cL m0 m1 m2 m3 m4 m5 m6 mf p1) := by
  refine ag_MI.of (plainFor_of_name (by decide)) (Nat.le_of_ble_eq_true rfl) ?_
  intro p e s m below meth c hx hb hr hlocks hml hown hmn hG hK A hN hA H locs hP hD hS ls hl
  have hl : lv_has ls 2 [(0, .ref m0), (1, .int p1)] := hl
  refine lv_iload_n hx hb dX6_sea_0 rfl (lv_at hl 1 rfl) ?_
  refine lv_iconst (v := 0) hx hb dX6_sea_1 (by decide) ?_
  refine lv_sipush (v := 9999) hx hb dX6_sea_2 (by decide) ?_
  refine ag_callSi (As := [.int p1, .int 0, .int 9999]) (rest := []) hx hb hml hown hG hK hN hA hP hD hS hl (ct_X6_in l D cI cC cL p1 0 9999) fX6_in k_607 ag_cut_0 rfl (Nat.le_of_ble_eq_true rfl) ⟨Nat.le_of_ble_eq_true rfl, Nat.le_of_ble_eq_true rfl⟩ ⟨Nat.zero_le _, Nat.zero_le _⟩ dX6_sea_5 (fun r w1 H locs hw hP hD hS => ?_)
  obtain ⟨rfl, hw⟩ := hw
  subst hw
  have hP : va_P D vwCl [oM m0 m1 m2 m3 m4 m5 m6 mf] H := hP
  have hD : va_D A [oM m0 m1 m2 m3 m4 m5 m6 mf] := hD
  refine lv_if_eq (tgt := 18) hx hb dX6_sea_8 (by decide) (fun c_8 => ?_) (fun c_8 => ?_)
  · refine lv_ldc (v := (-1000000001)) hx hb hown (hG _ k_618) dX6_sea_18 ?_
    exact ag_iret [m0] hx hb hr rfl hlocks hP hS rfl rfl ⟨(by unfold sr_X6_sea; rw [if_pos c_8]), rfl⟩ dX6_sea_20
  · refine lv_iload_n hx hb dX6_sea_11 rfl (lv_at hl 1 rfl) ?_
    refine ag_callSi (As := [.int p1]) (rest := []) hx hb hml hown hG hK hN hA hP hD hS hl (ct_X6_seaLevel l D cI cC cL p1) fX6_seaLevel k_652 ag_cut_0 rfl (Nat.le_of_ble_eq_true rfl) ⟨Nat.le_of_ble_eq_true rfl, Nat.le_of_ble_eq_true rfl⟩ ⟨Nat.zero_le _, Nat.zero_le _⟩ dX6_sea_12 (fun r w1 H locs hw hP hD hS => ?_)
    obtain ⟨rfl, hw⟩ := hw
    subst hw
    have hP : va_P D vwCl [oM m0 m1 m2 m3 m4 m5 m6 mf] H := hP
    have hD : va_D A [oM m0 m1 m2 m3 m4 m5 m6 mf] := hD
    refine lv_goto (tgt := 20) hx hb dX6_sea_15 (by decide) ?_
    exact ag_iret [m0] hx hb hr rfl hlocks hP hS rfl rfl ⟨(by unfold sr_X6_sea; rw [if_neg c_8]), rfl⟩ dX6_sea_20
def sr_X6_now (ms : Nat → Int32) (p1 : Int32) : Int32 := if p1 = 0 then ms 0 else if p1 = 1 then (ms 0) / 144 else if p1 = 2 then (ms 0) - (ms 0) / 144 * 144 else if p1 = 3 then sr_X6_seaLevel (ms 0) else if p1 = 4 then sr_X6_level ms else if p1 = 5 then sr_X6_head ms else if p1 = 6 then ms 1 else if p1 = 7 then ms 2 else if p1 = 8 then ms 3 else if p1 = 9 then ms 4 else if p1 = 10 then ms 5 else if p1 = 11 then if (sr_X6_isBirds ms) = 0 then 0 else 1 else if p1 = 12 then sr_X6_tide (ms 0) else (-1000000001)
abbrev po_X6_now (cI cC cL : ClassId) (m0 m1 m2 m3 m4 m5 m6 : Nat) (mf ms : Nat → Int32) (p1 : Int32) : Int32 → va_W → Prop := fun r w' => sr_X6_now ms p1 = r ∧ [oM m0 m1 m2 m3 m4 m5 m6 mf, aI cI m1 89 ms] = w'
set_option maxHeartbeats 4000000 in
set_option maxRecDepth 100000 in
theorem ct_X6_now (l : Launch) (D : va_G) (cI cC cL : ClassId) (m0 m1 m2 m3 m4 m5 m6 : Nat) (mf ms : Nat → Int32) (p1 : Int32) : ag_MI l yX6_now cX6_now 2 .int 4 82 D cI cC cL [.ref m0, .int p1] [oM m0 m1 m2 m3 m4 m5 m6 mf, aI cI m1 89 ms] (po_X6_now cI cC cL m0 m1 m2 m3 m4 m5 m6 mf ms p1) := by
  refine ag_MI.of (plainFor_of_name (by decide)) (Nat.le_of_ble_eq_true rfl) ?_
  intro p e s m below meth c hx hb hr hlocks hml hown hmn hG hK A hN hA H locs hP hD hS ls hl
  have hl : lv_has ls 2 [(0, .ref m0), (1, .int p1)] := hl
  refine lv_iload_n hx hb dX6_now_0 rfl (lv_at hl 1 rfl) ?_
  by_cases c_1_0 : p1 = 0
  · refine lv_tableIn (off := 67) (tgt := 68) hx hb dX6_now_1 (by rw [c_1_0]; decide) (by rw [c_1_0]; decide) (by rw [c_1_0]; rfl) (by decide) ?_
    refine lv_aload_n hx hb dX6_now_68 rfl (lv_at hl 0 rfl) ?_
    refine ag_getX6 (v := .ref m1) hx hb hG hown hK hP 0 0 rfl (by decide) k_536 rfl dX6_now_69 ?_
    refine lv_iconst (v := 0) hx hb dX6_now_72 (by decide) ?_
    refine ag_ild (k := 0) (v := ms 0) hx hb hK hP 1 rfl rfl (Nat.le_of_ble_eq_true rfl) (Nat.le_of_ble_eq_true rfl) rfl dX6_now_73 ?_
    exact ag_iret [m0, m1] hx hb hr rfl hlocks hP hS rfl rfl ⟨(by unfold sr_X6_now; rw [if_pos c_1_0]), rfl⟩ dX6_now_74
  · by_cases c_1_1 : p1 = 1
    · refine lv_tableIn (off := 74) (tgt := 75) hx hb dX6_now_1 (by rw [c_1_1]; decide) (by rw [c_1_1]; decide) (by rw [c_1_1]; rfl) (by decide) ?_
      refine lv_aload_n hx hb dX6_now_75 rfl (lv_at hl 0 rfl) ?_
      refine ag_getX6 (v := .ref m1) hx hb hG hown hK hP 0 0 rfl (by decide) k_536 rfl dX6_now_76 ?_
      refine lv_iconst (v := 0) hx hb dX6_now_79 (by decide) ?_
      refine ag_ild (k := 0) (v := ms 0) hx hb hK hP 1 rfl rfl (Nat.le_of_ble_eq_true rfl) (Nat.le_of_ble_eq_true rfl) rfl dX6_now_80 ?_
      refine lv_sipush (v := 144) hx hb dX6_now_81 (by decide) ?_
      refine lv_idiv hx hb dX6_now_84 (by decide) ?_
      exact ag_iret [m0, m1] hx hb hr rfl hlocks hP hS rfl rfl ⟨(by unfold sr_X6_now; rw [if_neg c_1_0, if_pos c_1_1]), rfl⟩ dX6_now_85
    · by_cases c_1_2 : p1 = 2
      · refine lv_tableIn (off := 85) (tgt := 86) hx hb dX6_now_1 (by rw [c_1_2]; decide) (by rw [c_1_2]; decide) (by rw [c_1_2]; rfl) (by decide) ?_
        refine lv_aload_n hx hb dX6_now_86 rfl (lv_at hl 0 rfl) ?_
        refine ag_getX6 (v := .ref m1) hx hb hG hown hK hP 0 0 rfl (by decide) k_536 rfl dX6_now_87 ?_
        refine lv_iconst (v := 0) hx hb dX6_now_90 (by decide) ?_
        refine ag_ild (k := 0) (v := ms 0) hx hb hK hP 1 rfl rfl (Nat.le_of_ble_eq_true rfl) (Nat.le_of_ble_eq_true rfl) rfl dX6_now_91 ?_
        refine lv_sipush (v := 144) hx hb dX6_now_92 (by decide) ?_
        refine lv_irem hx hb dX6_now_95 (by decide) ?_
        exact ag_iret [m0, m1] hx hb hr rfl hlocks hP hS rfl rfl ⟨(by unfold sr_X6_now; rw [if_neg c_1_0, if_neg c_1_1, if_pos c_1_2]), rfl⟩ dX6_now_96
      · by_cases c_1_3 : p1 = 3
        · refine lv_tableIn (off := 96) (tgt := 97) hx hb dX6_now_1 (by rw [c_1_3]; decide) (by rw [c_1_3]; decide) (by rw [c_1_3]; rfl) (by decide) ?_
          refine lv_aload_n hx hb dX6_now_97 rfl (lv_at hl 0 rfl) ?_
          refine ag_getX6 (v := .ref m1) hx hb hG hown hK hP 0 0 rfl (by decide) k_536 rfl dX6_now_98 ?_
          refine lv_iconst (v := 0) hx hb dX6_now_101 (by decide) ?_
          refine ag_ild (k := 0) (v := ms 0) hx hb hK hP 1 rfl rfl (Nat.le_of_ble_eq_true rfl) (Nat.le_of_ble_eq_true rfl) rfl dX6_now_102 ?_
          refine ag_callSi (As := [.int (ms 0)]) (rest := []) hx hb hml hown hG hK hN hA hP hD hS hl (ct_X6_seaLevel l D cI cC cL (ms 0)) fX6_seaLevel k_652 ag_cut_0 rfl (Nat.le_of_ble_eq_true rfl) ⟨Nat.le_of_ble_eq_true rfl, Nat.le_of_ble_eq_true rfl⟩ ⟨Nat.zero_le _, Nat.zero_le _⟩ dX6_now_103 (fun r w1 H locs hw hP hD hS => ?_)
          obtain ⟨rfl, hw⟩ := hw
          subst hw
          have hP : va_P D vwCl [oM m0 m1 m2 m3 m4 m5 m6 mf, aI cI m1 89 ms] H := hP
          have hD : va_D A [oM m0 m1 m2 m3 m4 m5 m6 mf, aI cI m1 89 ms] := hD
          exact ag_iret [m0, m1] hx hb hr rfl hlocks hP hS rfl rfl ⟨(by unfold sr_X6_now; rw [if_neg c_1_0, if_neg c_1_1, if_neg c_1_2, if_pos c_1_3]), rfl⟩ dX6_now_106
        · by_cases c_1_4 : p1 = 4
          · refine lv_tableIn (off := 106) (tgt := 107) hx hb dX6_now_1 (by rw [c_1_4]; decide) (by rw [c_1_4]; decide) (by rw [c_1_4]; rfl) (by decide) ?_
            refine lv_aload_n hx hb dX6_now_107 rfl (lv_at hl 0 rfl) ?_
            refine ag_callVi (As := []) (rest := []) hx hb hml hown hG hK hN hA hP hD hS hl (ct_X6_level l D cI cC cL m0 m1 m2 m3 m4 m5 m6 mf ms) fX6_level k_661 ag_cut_all (q0 := 0) rfl rfl rfl rfl (Nat.le_of_ble_eq_true rfl) ⟨Nat.le_of_ble_eq_true rfl, Nat.le_of_ble_eq_true rfl⟩ ⟨Nat.zero_le _, Nat.zero_le _⟩ dX6_now_108 (fun r w1 H locs hw hP hD hS => ?_)
            obtain ⟨rfl, hw⟩ := hw
            subst hw
            have hP : va_P D vwCl [oM m0 m1 m2 m3 m4 m5 m6 mf, aI cI m1 89 ms] H := hP
            have hD : va_D A [oM m0 m1 m2 m3 m4 m5 m6 mf, aI cI m1 89 ms] := hD
            exact ag_iret [m0, m1] hx hb hr rfl hlocks hP hS rfl rfl ⟨(by unfold sr_X6_now; rw [if_neg c_1_0, if_neg c_1_1, if_neg c_1_2, if_neg c_1_3, if_pos c_1_4]), rfl⟩ dX6_now_111
          · by_cases c_1_5 : p1 = 5
            · refine lv_tableIn (off := 111) (tgt := 112) hx hb dX6_now_1 (by rw [c_1_5]; decide) (by rw [c_1_5]; decide) (by rw [c_1_5]; rfl) (by decide) ?_
              refine lv_aload_n hx hb dX6_now_112 rfl (lv_at hl 0 rfl) ?_
              refine ag_callVi (As := []) (rest := []) hx hb hml hown hG hK hN hA hP hD hS hl (ct_X6_head l D cI cC cL m0 m1 m2 m3 m4 m5 m6 mf ms) fX6_head k_648 ag_cut_all (q0 := 0) rfl rfl rfl rfl (Nat.le_of_ble_eq_true rfl) ⟨Nat.le_of_ble_eq_true rfl, Nat.le_of_ble_eq_true rfl⟩ ⟨Nat.zero_le _, Nat.zero_le _⟩ dX6_now_113 (fun r w1 H locs hw hP hD hS => ?_)
              obtain ⟨rfl, hw⟩ := hw
              subst hw
              have hP : va_P D vwCl [oM m0 m1 m2 m3 m4 m5 m6 mf, aI cI m1 89 ms] H := hP
              have hD : va_D A [oM m0 m1 m2 m3 m4 m5 m6 mf, aI cI m1 89 ms] := hD
              exact ag_iret [m0, m1] hx hb hr rfl hlocks hP hS rfl rfl ⟨(by unfold sr_X6_now; rw [if_neg c_1_0, if_neg c_1_1, if_neg c_1_2, if_neg c_1_3, if_neg c_1_4, if_pos c_1_5]), rfl⟩ dX6_now_116
            · by_cases c_1_6 : p1 = 6
              · refine lv_tableIn (off := 116) (tgt := 117) hx hb dX6_now_1 (by rw [c_1_6]; decide) (by rw [c_1_6]; decide) (by rw [c_1_6]; rfl) (by decide) ?_
                refine lv_aload_n hx hb dX6_now_117 rfl (lv_at hl 0 rfl) ?_
                refine ag_getX6 (v := .ref m1) hx hb hG hown hK hP 0 0 rfl (by decide) k_536 rfl dX6_now_118 ?_
                refine lv_iconst (v := 1) hx hb dX6_now_121 (by decide) ?_
                refine lv_iload_n hx hb dX6_now_122 rfl (lv_at hl 1 rfl) ?_
                refine lv_iadd hx hb dX6_now_123 ?_
                refine lv_bipush (v := 6) hx hb dX6_now_124 (by decide) ?_
                refine lv_isub hx hb dX6_now_126 ?_
                refine ag_ild (k := 1) (v := ms 1) hx hb hK hP 1 rfl (by rw [c_1_6]; rfl) (Nat.le_of_ble_eq_true rfl) (Nat.le_of_ble_eq_true rfl) rfl dX6_now_127 ?_
                exact ag_iret [m0, m1] hx hb hr rfl hlocks hP hS rfl rfl ⟨(by unfold sr_X6_now; rw [if_neg c_1_0, if_neg c_1_1, if_neg c_1_2, if_neg c_1_3, if_neg c_1_4, if_neg c_1_5, if_pos c_1_6]), rfl⟩ dX6_now_128
              · by_cases c_1_7 : p1 = 7
                · refine lv_tableIn (off := 116) (tgt := 117) hx hb dX6_now_1 (by rw [c_1_7]; decide) (by rw [c_1_7]; decide) (by rw [c_1_7]; rfl) (by decide) ?_
                  refine lv_aload_n hx hb dX6_now_117 rfl (lv_at hl 0 rfl) ?_
                  refine ag_getX6 (v := .ref m1) hx hb hG hown hK hP 0 0 rfl (by decide) k_536 rfl dX6_now_118 ?_
                  refine lv_iconst (v := 1) hx hb dX6_now_121 (by decide) ?_
                  refine lv_iload_n hx hb dX6_now_122 rfl (lv_at hl 1 rfl) ?_
                  refine lv_iadd hx hb dX6_now_123 ?_
                  refine lv_bipush (v := 6) hx hb dX6_now_124 (by decide) ?_
                  refine lv_isub hx hb dX6_now_126 ?_
                  refine ag_ild (k := 2) (v := ms 2) hx hb hK hP 1 rfl (by rw [c_1_7]; rfl) (Nat.le_of_ble_eq_true rfl) (Nat.le_of_ble_eq_true rfl) rfl dX6_now_127 ?_
                  exact ag_iret [m0, m1] hx hb hr rfl hlocks hP hS rfl rfl ⟨(by unfold sr_X6_now; rw [if_neg c_1_0, if_neg c_1_1, if_neg c_1_2, if_neg c_1_3, if_neg c_1_4, if_neg c_1_5, if_neg c_1_6, if_pos c_1_7]), rfl⟩ dX6_now_128
                · by_cases c_1_8 : p1 = 8
                  · refine lv_tableIn (off := 116) (tgt := 117) hx hb dX6_now_1 (by rw [c_1_8]; decide) (by rw [c_1_8]; decide) (by rw [c_1_8]; rfl) (by decide) ?_
                    refine lv_aload_n hx hb dX6_now_117 rfl (lv_at hl 0 rfl) ?_
                    refine ag_getX6 (v := .ref m1) hx hb hG hown hK hP 0 0 rfl (by decide) k_536 rfl dX6_now_118 ?_
                    refine lv_iconst (v := 1) hx hb dX6_now_121 (by decide) ?_
                    refine lv_iload_n hx hb dX6_now_122 rfl (lv_at hl 1 rfl) ?_
                    refine lv_iadd hx hb dX6_now_123 ?_
                    refine lv_bipush (v := 6) hx hb dX6_now_124 (by decide) ?_
                    refine lv_isub hx hb dX6_now_126 ?_
                    refine ag_ild (k := 3) (v := ms 3) hx hb hK hP 1 rfl (by rw [c_1_8]; rfl) (Nat.le_of_ble_eq_true rfl) (Nat.le_of_ble_eq_true rfl) rfl dX6_now_127 ?_
                    exact ag_iret [m0, m1] hx hb hr rfl hlocks hP hS rfl rfl ⟨(by unfold sr_X6_now; rw [if_neg c_1_0, if_neg c_1_1, if_neg c_1_2, if_neg c_1_3, if_neg c_1_4, if_neg c_1_5, if_neg c_1_6, if_neg c_1_7, if_pos c_1_8]), rfl⟩ dX6_now_128
                  · by_cases c_1_9 : p1 = 9
                    · refine lv_tableIn (off := 116) (tgt := 117) hx hb dX6_now_1 (by rw [c_1_9]; decide) (by rw [c_1_9]; decide) (by rw [c_1_9]; rfl) (by decide) ?_
                      refine lv_aload_n hx hb dX6_now_117 rfl (lv_at hl 0 rfl) ?_
                      refine ag_getX6 (v := .ref m1) hx hb hG hown hK hP 0 0 rfl (by decide) k_536 rfl dX6_now_118 ?_
                      refine lv_iconst (v := 1) hx hb dX6_now_121 (by decide) ?_
                      refine lv_iload_n hx hb dX6_now_122 rfl (lv_at hl 1 rfl) ?_
                      refine lv_iadd hx hb dX6_now_123 ?_
                      refine lv_bipush (v := 6) hx hb dX6_now_124 (by decide) ?_
                      refine lv_isub hx hb dX6_now_126 ?_
                      refine ag_ild (k := 4) (v := ms 4) hx hb hK hP 1 rfl (by rw [c_1_9]; rfl) (Nat.le_of_ble_eq_true rfl) (Nat.le_of_ble_eq_true rfl) rfl dX6_now_127 ?_
                      exact ag_iret [m0, m1] hx hb hr rfl hlocks hP hS rfl rfl ⟨(by unfold sr_X6_now; rw [if_neg c_1_0, if_neg c_1_1, if_neg c_1_2, if_neg c_1_3, if_neg c_1_4, if_neg c_1_5, if_neg c_1_6, if_neg c_1_7, if_neg c_1_8, if_pos c_1_9]), rfl⟩ dX6_now_128
                    · by_cases c_1_10 : p1 = 10
                      · refine lv_tableIn (off := 116) (tgt := 117) hx hb dX6_now_1 (by rw [c_1_10]; decide) (by rw [c_1_10]; decide) (by rw [c_1_10]; rfl) (by decide) ?_
                        refine lv_aload_n hx hb dX6_now_117 rfl (lv_at hl 0 rfl) ?_
                        refine ag_getX6 (v := .ref m1) hx hb hG hown hK hP 0 0 rfl (by decide) k_536 rfl dX6_now_118 ?_
                        refine lv_iconst (v := 1) hx hb dX6_now_121 (by decide) ?_
                        refine lv_iload_n hx hb dX6_now_122 rfl (lv_at hl 1 rfl) ?_
                        refine lv_iadd hx hb dX6_now_123 ?_
                        refine lv_bipush (v := 6) hx hb dX6_now_124 (by decide) ?_
                        refine lv_isub hx hb dX6_now_126 ?_
                        refine ag_ild (k := 5) (v := ms 5) hx hb hK hP 1 rfl (by rw [c_1_10]; rfl) (Nat.le_of_ble_eq_true rfl) (Nat.le_of_ble_eq_true rfl) rfl dX6_now_127 ?_
                        exact ag_iret [m0, m1] hx hb hr rfl hlocks hP hS rfl rfl ⟨(by unfold sr_X6_now; rw [if_neg c_1_0, if_neg c_1_1, if_neg c_1_2, if_neg c_1_3, if_neg c_1_4, if_neg c_1_5, if_neg c_1_6, if_neg c_1_7, if_neg c_1_8, if_neg c_1_9, if_pos c_1_10]), rfl⟩ dX6_now_128
                      · by_cases c_1_11 : p1 = 11
                        · refine lv_tableIn (off := 128) (tgt := 129) hx hb dX6_now_1 (by rw [c_1_11]; decide) (by rw [c_1_11]; decide) (by rw [c_1_11]; rfl) (by decide) ?_
                          refine lv_aload_n hx hb dX6_now_129 rfl (lv_at hl 0 rfl) ?_
                          refine ag_callVi (As := []) (rest := []) hx hb hml hown hG hK hN hA hP hD hS hl (ct_X6_isBirds l D cI cC cL m0 m1 m2 m3 m4 m5 m6 mf ms) fX6_isBirds k_665 ag_cut_all (q0 := 0) rfl rfl rfl rfl (Nat.le_of_ble_eq_true rfl) ⟨Nat.le_of_ble_eq_true rfl, Nat.le_of_ble_eq_true rfl⟩ ⟨Nat.zero_le _, Nat.zero_le _⟩ dX6_now_130 (fun r w1 H locs hw hP hD hS => ?_)
                          obtain ⟨rfl, hw⟩ := hw
                          subst hw
                          have hP : va_P D vwCl [oM m0 m1 m2 m3 m4 m5 m6 mf, aI cI m1 89 ms] H := hP
                          have hD : va_D A [oM m0 m1 m2 m3 m4 m5 m6 mf, aI cI m1 89 ms] := hD
                          refine lv_if_eq (tgt := 140) hx hb dX6_now_133 (by decide) (fun c_133 => ?_) (fun c_133 => ?_)
                          · refine lv_iconst (v := 0) hx hb dX6_now_140 (by decide) ?_
                            exact ag_iret [m0, m1] hx hb hr rfl hlocks hP hS rfl rfl ⟨(by unfold sr_X6_now; rw [if_neg c_1_0, if_neg c_1_1, if_neg c_1_2, if_neg c_1_3, if_neg c_1_4, if_neg c_1_5, if_neg c_1_6, if_neg c_1_7, if_neg c_1_8, if_neg c_1_9, if_neg c_1_10, if_pos c_1_11, if_pos c_133]), rfl⟩ dX6_now_141
                          · refine lv_iconst (v := 1) hx hb dX6_now_136 (by decide) ?_
                            refine lv_goto (tgt := 141) hx hb dX6_now_137 (by decide) ?_
                            exact ag_iret [m0, m1] hx hb hr rfl hlocks hP hS rfl rfl ⟨(by unfold sr_X6_now; rw [if_neg c_1_0, if_neg c_1_1, if_neg c_1_2, if_neg c_1_3, if_neg c_1_4, if_neg c_1_5, if_neg c_1_6, if_neg c_1_7, if_neg c_1_8, if_neg c_1_9, if_neg c_1_10, if_pos c_1_11, if_neg c_133]), rfl⟩ dX6_now_141
                        · by_cases c_1_12 : p1 = 12
                          · refine lv_tableIn (off := 141) (tgt := 142) hx hb dX6_now_1 (by rw [c_1_12]; decide) (by rw [c_1_12]; decide) (by rw [c_1_12]; rfl) (by decide) ?_
                            refine lv_aload_n hx hb dX6_now_142 rfl (lv_at hl 0 rfl) ?_
                            refine ag_getX6 (v := .ref m1) hx hb hG hown hK hP 0 0 rfl (by decide) k_536 rfl dX6_now_143 ?_
                            refine lv_iconst (v := 0) hx hb dX6_now_146 (by decide) ?_
                            refine ag_ild (k := 0) (v := ms 0) hx hb hK hP 1 rfl rfl (Nat.le_of_ble_eq_true rfl) (Nat.le_of_ble_eq_true rfl) rfl dX6_now_147 ?_
                            refine ag_callSi (As := [.int (ms 0)]) (rest := []) hx hb hml hown hG hK hN hA hP hD hS hl (ct_X6_tide l D cI cC cL (ms 0)) fX6_tide k_655 ag_cut_0 rfl (Nat.le_of_ble_eq_true rfl) ⟨Nat.le_of_ble_eq_true rfl, Nat.le_of_ble_eq_true rfl⟩ ⟨Nat.zero_le _, Nat.zero_le _⟩ dX6_now_148 (fun r w1 H locs hw hP hD hS => ?_)
                            obtain ⟨rfl, hw⟩ := hw
                            subst hw
                            have hP : va_P D vwCl [oM m0 m1 m2 m3 m4 m5 m6 mf, aI cI m1 89 ms] H := hP
                            have hD : va_D A [oM m0 m1 m2 m3 m4 m5 m6 mf, aI cI m1 89 ms] := hD
                            exact ag_iret [m0, m1] hx hb hr rfl hlocks hP hS rfl rfl ⟨(by unfold sr_X6_now; rw [if_neg c_1_0, if_neg c_1_1, if_neg c_1_2, if_neg c_1_3, if_neg c_1_4, if_neg c_1_5, if_neg c_1_6, if_neg c_1_7, if_neg c_1_8, if_neg c_1_9, if_neg c_1_10, if_neg c_1_11, if_pos c_1_12]), rfl⟩ dX6_now_151
                          · refine lv_tableOut (tgt := 152) hx hb dX6_now_1 (by have h0 := lv_neT c_1_0 (a := 0) rfl; have h1 := lv_neT c_1_1 (a := 1) rfl; have h2 := lv_neT c_1_2 (a := 2) rfl; have h3 := lv_neT c_1_3 (a := 3) rfl; have h4 := lv_neT c_1_4 (a := 4) rfl; have h5 := lv_neT c_1_5 (a := 5) rfl; have h6 := lv_neT c_1_6 (a := 6) rfl; have h7 := lv_neT c_1_7 (a := 7) rfl; have h8 := lv_neT c_1_8 (a := 8) rfl; have h9 := lv_neT c_1_9 (a := 9) rfl; have h10 := lv_neT c_1_10 (a := 10) rfl; have h11 := lv_neT c_1_11 (a := 11) rfl; have h12 := lv_neT c_1_12 (a := 12) rfl; omega) (by decide) ?_
                            refine lv_ldc (v := (-1000000001)) hx hb hown (hG _ k_618) dX6_now_152 ?_
                            exact ag_iret [m0, m1] hx hb hr rfl hlocks hP hS rfl rfl ⟨(by unfold sr_X6_now; rw [if_neg c_1_0, if_neg c_1_1, if_neg c_1_2, if_neg c_1_3, if_neg c_1_4, if_neg c_1_5, if_neg c_1_6, if_neg c_1_7, if_neg c_1_8, if_neg c_1_9, if_neg c_1_10, if_neg c_1_11, if_neg c_1_12]), rfl⟩ dX6_now_154
