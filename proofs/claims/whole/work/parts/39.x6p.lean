/-! the model: plays -/
def gv46_1_X6_plays (mx : Nat → Int32) (fi : Nat → Int32) (di : Nat → Int32) : Nat → Int32 := sw0_X6_reads (upd fi 11 (fi 10)) mx di
def gv46_2_X6_plays (mx : Nat → Int32) (fi : Nat → Int32) (di : Nat → Int32) : Nat → Int32 := sw2_X6_reads (upd fi 11 (fi 10)) mx di
def gv55_3_X6_plays (mx : Nat → Int32) (fi : Nat → Int32) (si : Nat → Int32) (di : Nat → Int32) : Nat → Int32 := sw0_X6_calls (gv46_1_X6_plays mx fi di) si (gv46_2_X6_plays mx fi di)
def gv55_4_X6_plays (mx : Nat → Int32) (fi : Nat → Int32) (si : Nat → Int32) (di : Nat → Int32) : Nat → Int32 := sw1_X6_calls (gv46_1_X6_plays mx fi di) si (gv46_2_X6_plays mx fi di)
def gv55_5_X6_plays (mx : Nat → Int32) (fi : Nat → Int32) (si : Nat → Int32) (bi : Nat → Int32) (di : Nat → Int32) : Nat → Int32 := sw2_X6_calls (gv46_1_X6_plays mx fi di) si bi (gv46_2_X6_plays mx fi di)
abbrev po_X6_plays (cI cC cL : ClassId) (m0 m1 m2 m3 m4 m5 m6 : Nat) (mf ms mp mx md : Nat → Int32) (hc : cq mf) (hq : mq ms) (ht : tT mf) : Int32 → va_W → Prop := fun r w' => (mpX mf ms mp mx md).1 = r ∧ [oM m0 m1 m2 m3 m4 m5 m6 (upd (mpX mf ms mp mx md).2.1 1 0), aI cI m1 89 ((mpX mf ms mp mx md).2.2.1), aI cI m2 356 ((mpX mf ms mp mx md).2.2.2.1), aI cI m5 60 mx, aI cI m6 2 ((mpX mf ms mp mx md).2.2.2.2)] = w'
set_option maxHeartbeats 4000000 in
set_option maxRecDepth 100000 in
theorem ct_X6_plays (l : Launch) (D : va_G) (cI cC cL : ClassId) (m0 m1 m2 m3 m4 m5 m6 : Nat) (mf ms mp mx md : Nat → Int32) (hc : cq mf) (hq : mq ms) (ht : tT mf) : ag_MI l yX6_plays cX6_plays 4 .boolean 9 190 D cI cC cL [.ref m0] [oM m0 m1 m2 m3 m4 m5 m6 mf, aI cI m1 89 ms, aI cI m2 356 mp, aI cI m5 60 mx, aI cI m6 2 md] (po_X6_plays cI cC cL m0 m1 m2 m3 m4 m5 m6 mf ms mp mx md hc hq ht) := by
  refine ag_MI.of (plainFor_of_name (by decide)) (Nat.le_of_ble_eq_true rfl) ?_
  intro p e s m below meth c hx hb hr hlocks hml hown hmn hG hK A hN hA H locs hP hD hS ls hl
  have hl : lv_has ls 4 [(0, .ref m0)] := hl
  refine lv_aload_n hx hb dX6_plays_0 rfl (lv_at hl 0 rfl) ?_
  refine lv_iconst (v := 1) hx hb dX6_plays_1 (by decide) ?_
  refine ag_putX6 hx hb hG hown hK hP hD hS 0 5 rfl (by decide) k_541 (by decide) rfl rfl (Nat.le_of_ble_eq_true rfl) dX6_plays_2 (fun H locs hP hD hS => ?_)
  have hP : va_P D vwCl [oM m0 m1 m2 m3 m4 m5 m6 (upd mf 1 1), aI cI m1 89 ms, aI cI m2 356 mp, aI cI m5 60 mx, aI cI m6 2 md] H := hP
  have hD : va_D A [oM m0 m1 m2 m3 m4 m5 m6 (upd mf 1 1), aI cI m1 89 ms, aI cI m2 356 mp, aI cI m5 60 mx, aI cI m6 2 md] := hD
  refine lv_aload_n hx hb dX6_plays_5 rfl (lv_at hl 0 rfl) ?_
  refine lv_iconst (v := 0) hx hb dX6_plays_6 (by decide) ?_
  refine ag_putX6 hx hb hG hown hK hP hD hS 0 15 rfl (by decide) k_551 (by decide) rfl rfl (Nat.le_of_ble_eq_true rfl) dX6_plays_7 (fun H locs hP hD hS => ?_)
  have hP : va_P D vwCl [oM m0 m1 m2 m3 m4 m5 m6 (upd (upd mf 1 1) 10 0), aI cI m1 89 ms, aI cI m2 356 mp, aI cI m5 60 mx, aI cI m6 2 md] H := hP
  have hD : va_D A [oM m0 m1 m2 m3 m4 m5 m6 (upd (upd mf 1 1) 10 0), aI cI m1 89 ms, aI cI m2 356 mp, aI cI m5 60 mx, aI cI m6 2 md] := hD
  refine lv_aload_n hx hb dX6_plays_10 rfl (lv_at hl 0 rfl) ?_
  refine lv_iconst (v := 0) hx hb dX6_plays_11 (by decide) ?_
  refine ag_putX6 hx hb hG hown hK hP hD hS 0 16 rfl (by decide) k_552 (by decide) rfl rfl (Nat.le_of_ble_eq_true rfl) dX6_plays_12 (fun H locs hP hD hS => ?_)
  have hP : va_P D vwCl [oM m0 m1 m2 m3 m4 m5 m6 (upd (upd (upd mf 1 1) 10 0) 11 0), aI cI m1 89 ms, aI cI m2 356 mp, aI cI m5 60 mx, aI cI m6 2 md] H := hP
  have hD : va_D A [oM m0 m1 m2 m3 m4 m5 m6 (upd (upd (upd mf 1 1) 10 0) 11 0), aI cI m1 89 ms, aI cI m2 356 mp, aI cI m5 60 mx, aI cI m6 2 md] := hD
  refine lv_aload_n hx hb dX6_plays_15 rfl (lv_at hl 0 rfl) ?_
  refine lv_iconst (v := 0) hx hb dX6_plays_16 (by decide) ?_
  refine ag_putX6 hx hb hG hown hK hP hD hS 0 19 rfl (by decide) k_555 (by decide) rfl rfl (Nat.le_of_ble_eq_true rfl) dX6_plays_17 (fun H locs hP hD hS => ?_)
  have hP : va_P D vwCl [oM m0 m1 m2 m3 m4 m5 m6 (upd (upd (upd (upd mf 1 1) 10 0) 11 0) 14 0), aI cI m1 89 ms, aI cI m2 356 mp, aI cI m5 60 mx, aI cI m6 2 md] H := hP
  have hD : va_D A [oM m0 m1 m2 m3 m4 m5 m6 (upd (upd (upd (upd mf 1 1) 10 0) 11 0) 14 0), aI cI m1 89 ms, aI cI m2 356 mp, aI cI m5 60 mx, aI cI m6 2 md] := hD
  refine lv_iconst (v := 1) hx hb dX6_plays_20 (by decide) ?_
  refine lv_istore_n (lv' := [(1, .int 1), (0, .ref m0)]) hx hb dX6_plays_21 rfl hl (by decide) rfl (fun ls hl => ?_)
  suffices L22 : ∀ (n : Nat) (ii : Int32) (fi si bi di : Nat → Int32), (hQ : mpQ n (ii, fi, si, bi, di)) → (hI : ii = 0 ∨ ii = 1) → (hR : mpl mx n (ii, fi, si, bi, di) = mpl mx 60 (1, mp0 mf, ms, mp, md)) → ∀ (H : Heap) (locs : List Loc) (ls : Array Slot), lv_has ls 4 [(0, .ref m0), (1, .int ii)] → va_P D vwCl [oM m0 m1 m2 m3 m4 m5 m6 fi, aI cI m1 89 si, aI cI m2 356 bi, aI cI m5 60 mx, aI cI m6 2 di] H → va_D A [oM m0 m1 m2 m3 m4 m5 m6 fi, aI cI m1 89 si, aI cI m2 356 bi, aI cI m5 60 mx, aI cI m6 2 di] → va_S A s.heap H locs → W p l e (ag_rm 9 190) s m ([.ref m0] : List Value).toArray below meth c H locs 0 0 (MQ below (va_Qi (po_X6_plays cI cC cL m0 m1 m2 m3 m4 m5 m6 mf ms mp mx md hc hq ht) (ag_Out D [oM m0 m1 m2 m3 m4 m5 m6 mf, aI cI m1 89 ms, aI cI m2 356 mp, aI cI m5 60 mx, aI cI m6 2 md]) A) ([.ref m0] : List Value).toArray s 0 0 A) (F0 m 22 ls []) from L22 60 1 (mp0 mf) ms mp md (mpQ_0 ht hc hq) (Or.inr rfl) rfl H locs ls (lv_sub hl [1, 0] rfl) hP hD hS
  intro n
  induction n with
  | zero =>
    intro ii fi si bi di hQ hI hR H locs ls hl hP hD hS
    refine lv_aload_n hx hb dX6_plays_22 rfl (lv_at hl 0 rfl) ?_
    refine ag_getX6 (v := .int (fi 10)) hx hb hG hown hK hP 0 15 rfl (by decide) k_551 rfl dX6_plays_23 ?_
    refine lv_aload_n hx hb dX6_plays_26 rfl (lv_at hl 0 rfl) ?_
    refine ag_getX6 (v := .int (fi 2)) hx hb hG hown hK hP 0 7 rfl (by decide) k_543 rfl dX6_plays_27 ?_
    refine lv_icmp_ge (tgt := 126) hx hb dX6_plays_30 (by decide) (fun c_30 => ?_) (fun c_30 => ?_)
    · refine lv_aload_n hx hb dX6_plays_126 rfl (lv_at hl 0 rfl) ?_
      refine lv_iconst (v := 0) hx hb dX6_plays_127 (by decide) ?_
      refine ag_putX6 hx hb hG hown hK hP hD hS 0 5 rfl (by decide) k_541 (by decide) rfl rfl (Nat.le_of_ble_eq_true rfl) dX6_plays_128 (fun H locs hP hD hS => ?_)
      have hP : va_P D vwCl [oM m0 m1 m2 m3 m4 m5 m6 (upd fi 1 0), aI cI m1 89 si, aI cI m2 356 bi, aI cI m5 60 mx, aI cI m6 2 di] H := hP
      have hD : va_D A [oM m0 m1 m2 m3 m4 m5 m6 (upd fi 1 0), aI cI m1 89 si, aI cI m2 356 bi, aI cI m5 60 mx, aI cI m6 2 di] := hD
      refine lv_iload_n hx hb dX6_plays_131 rfl (lv_at hl 1 rfl) ?_
      exact ag_iret [m0, m1, m2, m5, m6] hx hb hr (by rcases hI with h | h <;> rw [h] <;> decide) hlocks hP hS rfl rfl ⟨(by unfold mpX; rw [← hR]; rfl), (by show _ = _; unfold mpX; rw [← hR]; rfl)⟩ dX6_plays_132
    · refine lv_iload_n hx hb dX6_plays_33 rfl (lv_at hl 1 rfl) ?_
      refine lv_if_eq (tgt := 126) hx hb dX6_plays_34 (by decide) (fun _ => ?_) (fun h0 => absurd (mpQ_end hQ c_30) h0)
      refine lv_aload_n hx hb dX6_plays_126 rfl (lv_at hl 0 rfl) ?_
      refine lv_iconst (v := 0) hx hb dX6_plays_127 (by decide) ?_
      refine ag_putX6 hx hb hG hown hK hP hD hS 0 5 rfl (by decide) k_541 (by decide) rfl rfl (Nat.le_of_ble_eq_true rfl) dX6_plays_128 (fun H locs hP hD hS => ?_)
      have hP : va_P D vwCl [oM m0 m1 m2 m3 m4 m5 m6 (upd fi 1 0), aI cI m1 89 si, aI cI m2 356 bi, aI cI m5 60 mx, aI cI m6 2 di] H := hP
      have hD : va_D A [oM m0 m1 m2 m3 m4 m5 m6 (upd fi 1 0), aI cI m1 89 si, aI cI m2 356 bi, aI cI m5 60 mx, aI cI m6 2 di] := hD
      refine lv_iload_n hx hb dX6_plays_131 rfl (lv_at hl 1 rfl) ?_
      exact ag_iret [m0, m1, m2, m5, m6] hx hb hr (by rcases hI with h | h <;> rw [h] <;> decide) hlocks hP hS rfl rfl ⟨(by unfold mpX; rw [← hR]; rfl), (by show _ = _; unfold mpX; rw [← hR]; rfl)⟩ dX6_plays_132
  | succ n ih =>
    intro ii fi si bi di hQ hI hR H locs ls hl hP hD hS
    refine lv_aload_n hx hb dX6_plays_22 rfl (lv_at hl 0 rfl) ?_
    refine ag_getX6 (v := .int (fi 10)) hx hb hG hown hK hP 0 15 rfl (by decide) k_551 rfl dX6_plays_23 ?_
    refine lv_aload_n hx hb dX6_plays_26 rfl (lv_at hl 0 rfl) ?_
    refine ag_getX6 (v := .int (fi 2)) hx hb hG hown hK hP 0 7 rfl (by decide) k_543 rfl dX6_plays_27 ?_
    refine lv_icmp_ge (tgt := 126) hx hb dX6_plays_30 (by decide) (fun c_30 => ?_) (fun c_30 => ?_)
    · refine lv_aload_n hx hb dX6_plays_126 rfl (lv_at hl 0 rfl) ?_
      refine lv_iconst (v := 0) hx hb dX6_plays_127 (by decide) ?_
      refine ag_putX6 hx hb hG hown hK hP hD hS 0 5 rfl (by decide) k_541 (by decide) rfl rfl (Nat.le_of_ble_eq_true rfl) dX6_plays_128 (fun H locs hP hD hS => ?_)
      have hP : va_P D vwCl [oM m0 m1 m2 m3 m4 m5 m6 (upd fi 1 0), aI cI m1 89 si, aI cI m2 356 bi, aI cI m5 60 mx, aI cI m6 2 di] H := hP
      have hD : va_D A [oM m0 m1 m2 m3 m4 m5 m6 (upd fi 1 0), aI cI m1 89 si, aI cI m2 356 bi, aI cI m5 60 mx, aI cI m6 2 di] := hD
      refine lv_iload_n hx hb dX6_plays_131 rfl (lv_at hl 1 rfl) ?_
      exact ag_iret [m0, m1, m2, m5, m6] hx hb hr (by rcases hI with h | h <;> rw [h] <;> decide) hlocks hP hS rfl rfl ⟨(by unfold mpX; rw [← hR, mpl_a (x := (ii, fi, si, bi, di)) c_30]), (by show _ = _; unfold mpX; rw [← hR, mpl_a (x := (ii, fi, si, bi, di)) c_30])⟩ dX6_plays_132
    · refine lv_iload_n hx hb dX6_plays_33 rfl (lv_at hl 1 rfl) ?_
      refine lv_if_eq (tgt := 126) hx hb dX6_plays_34 (by decide) (fun c_34 => ?_) (fun c_34 => ?_)
      · refine lv_aload_n hx hb dX6_plays_126 rfl (lv_at hl 0 rfl) ?_
        refine lv_iconst (v := 0) hx hb dX6_plays_127 (by decide) ?_
        refine ag_putX6 hx hb hG hown hK hP hD hS 0 5 rfl (by decide) k_541 (by decide) rfl rfl (Nat.le_of_ble_eq_true rfl) dX6_plays_128 (fun H locs hP hD hS => ?_)
        have hP : va_P D vwCl [oM m0 m1 m2 m3 m4 m5 m6 (upd fi 1 0), aI cI m1 89 si, aI cI m2 356 bi, aI cI m5 60 mx, aI cI m6 2 di] H := hP
        have hD : va_D A [oM m0 m1 m2 m3 m4 m5 m6 (upd fi 1 0), aI cI m1 89 si, aI cI m2 356 bi, aI cI m5 60 mx, aI cI m6 2 di] := hD
        refine lv_iload_n hx hb dX6_plays_131 rfl (lv_at hl 1 rfl) ?_
        exact ag_iret [m0, m1, m2, m5, m6] hx hb hr (by rcases hI with h | h <;> rw [h] <;> decide) hlocks hP hS rfl rfl ⟨(by unfold mpX; rw [← hR, mpl_b (x := (ii, fi, si, bi, di)) c_34]), (by show _ = _; unfold mpX; rw [← hR, mpl_b (x := (ii, fi, si, bi, di)) c_34])⟩ dX6_plays_132
      · refine lv_aload_n hx hb dX6_plays_37 rfl (lv_at hl 0 rfl) ?_
        refine lv_aload_n hx hb dX6_plays_38 rfl (lv_at hl 0 rfl) ?_
        refine ag_getX6 (v := .int (fi 10)) hx hb hG hown hK hP 0 15 rfl (by decide) k_551 rfl dX6_plays_39 ?_
        refine ag_putX6 hx hb hG hown hK hP hD hS 0 16 rfl (by decide) k_552 (by decide) rfl rfl (Nat.le_of_ble_eq_true rfl) dX6_plays_42 (fun H locs hP hD hS => ?_)
        have hP : va_P D vwCl [oM m0 m1 m2 m3 m4 m5 m6 (upd fi 11 (fi 10)), aI cI m1 89 si, aI cI m2 356 bi, aI cI m5 60 mx, aI cI m6 2 di] H := hP
        have hD : va_D A [oM m0 m1 m2 m3 m4 m5 m6 (upd fi 11 (fi 10)), aI cI m1 89 si, aI cI m2 356 bi, aI cI m5 60 mx, aI cI m6 2 di] := hD
        refine lv_aload_n hx hb dX6_plays_45 rfl (lv_at hl 0 rfl) ?_
        refine ag_callVi (As := []) (rest := []) hx hb hml hown hG hK hN hA hP hD hS hl (ct_X6_reads l D cI cC cL m0 m1 m2 m3 m4 m5 m6 (upd fi 11 (fi 10)) mx di (tq_eq hQ.1 rfl rfl)) fX6_reads k_768 (ag_cut_2 1 [] [oM m0 m1 m2 m3 m4 m5 m6 (upd fi 11 (fi 10))] [aI cI m1 89 si, aI cI m2 356 bi] [aI cI m5 60 mx, aI cI m6 2 di] [] rfl rfl rfl) (q0 := 0) rfl rfl rfl rfl (Nat.le_of_ble_eq_true rfl) ⟨Nat.le_of_ble_eq_true rfl, Nat.le_of_ble_eq_true rfl⟩ ⟨Nat.zero_le _, Nat.zero_le _⟩ dX6_plays_46 (fun r w1 H locs hw hP hD hS => ?_)
        obtain ⟨rfl, hw⟩ := hw
        generalize eg46_1 : sw0_X6_reads (upd fi 11 (fi 10)) mx di = g46_1 at hw
        replace eg46_1 : gv46_1_X6_plays mx fi di = g46_1 := (by rw [← eg46_1]; rfl)
        generalize eg46_2 : sw2_X6_reads (upd fi 11 (fi 10)) mx di = g46_2 at hw
        replace eg46_2 : gv46_2_X6_plays mx fi di = g46_2 := (by rw [← eg46_2]; rfl)
        subst hw
        have hP : va_P D vwCl [oM m0 m1 m2 m3 m4 m5 m6 g46_1, aI cI m1 89 si, aI cI m2 356 bi, aI cI m5 60 mx, aI cI m6 2 g46_2] H := hP
        have hD : va_D A [oM m0 m1 m2 m3 m4 m5 m6 g46_1, aI cI m1 89 si, aI cI m2 356 bi, aI cI m5 60 mx, aI cI m6 2 g46_2] := hD
        refine lv_istore_n (lv' := [(2, .int (sr_X6_reads (upd fi 11 (fi 10)) mx di)), (0, .ref m0), (1, .int ii)]) hx hb dX6_plays_49 rfl hl (by decide) rfl (fun ls hl => ?_)
        refine lv_iload_n hx hb dX6_plays_50 rfl (lv_at hl 0 rfl) ?_
        refine lv_if_eq (tgt := 61) hx hb dX6_plays_51 (by decide) (fun c_51 => ?_) (fun c_51 => ?_)
        · refine lv_iconst (v := 0) hx hb dX6_plays_61 (by decide) ?_
          refine lv_istore_n (lv' := [(3, .int 0), (2, .int (sr_X6_reads (upd fi 11 (fi 10)) mx di)), (0, .ref m0), (1, .int ii)]) hx hb dX6_plays_62 rfl hl (by decide) rfl (fun ls hl => ?_)
          refine lv_iload_n hx hb dX6_plays_63 rfl (lv_at hl 1 rfl) ?_
          refine lv_if_eq (tgt := 77) hx hb dX6_plays_64 (by decide) (fun _ => ?_) (fun h0 => absurd c_51 h0)
          refine lv_iconst (v := 0) hx hb dX6_plays_77 (by decide) ?_
          refine lv_istore_n (lv' := [(1, .int 0), (3, .int 0), (2, .int (sr_X6_reads (upd fi 11 (fi 10)) mx di)), (0, .ref m0)]) hx hb dX6_plays_78 rfl hl (by decide) rfl (fun ls hl => ?_)
          refine lv_aload_n hx hb dX6_plays_79 rfl (lv_at hl 3 rfl) ?_
          refine lv_iload_n hx hb dX6_plays_80 rfl (lv_at hl 2 rfl) ?_
          refine lv_if_eq (tgt := 88) hx hb dX6_plays_81 (by decide) (fun _ => ?_) (fun h0 => absurd c_51 h0)
          refine lv_iconst (v := 1) hx hb dX6_plays_88 (by decide) ?_
          refine ag_putX6 hx hb hG hown hK hP hD hS 0 17 rfl (by decide) k_553 (by decide) rfl rfl (Nat.le_of_ble_eq_true rfl) dX6_plays_89 (fun H locs hP hD hS => ?_)
          have hP : va_P D vwCl [oM m0 m1 m2 m3 m4 m5 m6 (upd g46_1 12 1), aI cI m1 89 si, aI cI m2 356 bi, aI cI m5 60 mx, aI cI m6 2 g46_2] H := hP
          have hD : va_D A [oM m0 m1 m2 m3 m4 m5 m6 (upd g46_1 12 1), aI cI m1 89 si, aI cI m2 356 bi, aI cI m5 60 mx, aI cI m6 2 g46_2] := hD
          refine lv_aload_n hx hb dX6_plays_92 rfl (lv_at hl 3 rfl) ?_
          refine lv_iload_n hx hb dX6_plays_93 rfl (lv_at hl 2 rfl) ?_
          refine lv_if_eq (tgt := 101) hx hb dX6_plays_94 (by decide) (fun _ => ?_) (fun h0 => absurd c_51 h0)
          refine lv_aload_n hx hb dX6_plays_101 rfl (lv_at hl 3 rfl) ?_
          refine ag_getX6 (v := .int (g46_1 10)) hx hb hG hown hK hP 0 15 rfl (by decide) k_551 rfl dX6_plays_102 ?_
          refine lv_aload_n hx hb dX6_plays_105 rfl (lv_at hl 3 rfl) ?_
          refine ag_getX6 (v := .int (g46_1 11)) hx hb hG hown hK hP 0 16 rfl (by decide) k_552 rfl dX6_plays_106 ?_
          refine lv_isub hx hb dX6_plays_109 ?_
          refine ag_putX6 hx hb hG hown hK hP hD hS 0 18 rfl (by decide) k_554 (by decide) rfl rfl (Nat.le_of_ble_eq_true rfl) dX6_plays_110 (fun H locs hP hD hS => ?_)
          have hP : va_P D vwCl [oM m0 m1 m2 m3 m4 m5 m6 (upd (upd g46_1 12 1) 13 ((g46_1 10) - (g46_1 11))), aI cI m1 89 si, aI cI m2 356 bi, aI cI m5 60 mx, aI cI m6 2 g46_2] H := hP
          have hD : va_D A [oM m0 m1 m2 m3 m4 m5 m6 (upd (upd g46_1 12 1) 13 ((g46_1 10) - (g46_1 11))), aI cI m1 89 si, aI cI m2 356 bi, aI cI m5 60 mx, aI cI m6 2 g46_2] := hD
          refine lv_aload_n hx hb dX6_plays_113 rfl (lv_at hl 3 rfl) ?_
          refine lv_dup hx hb dX6_plays_114 rfl ?_
          refine ag_getX6 (v := .int (g46_1 14)) hx hb hG hown hK hP 0 19 rfl (by decide) k_555 rfl dX6_plays_115 ?_
          refine lv_iconst (v := 1) hx hb dX6_plays_118 (by decide) ?_
          refine lv_iadd hx hb dX6_plays_119 ?_
          refine ag_putX6 hx hb hG hown hK hP hD hS 0 19 rfl (by decide) k_555 (by decide) rfl rfl (Nat.le_of_ble_eq_true rfl) dX6_plays_120 (fun H locs hP hD hS => ?_)
          have hP : va_P D vwCl [oM m0 m1 m2 m3 m4 m5 m6 (upd (upd (upd g46_1 12 1) 13 ((g46_1 10) - (g46_1 11))) 14 ((g46_1 14) + 1)), aI cI m1 89 si, aI cI m2 356 bi, aI cI m5 60 mx, aI cI m6 2 g46_2] H := hP
          have hD : va_D A [oM m0 m1 m2 m3 m4 m5 m6 (upd (upd (upd g46_1 12 1) 13 ((g46_1 10) - (g46_1 11))) 14 ((g46_1 14) + 1)), aI cI m1 89 si, aI cI m2 356 bi, aI cI m5 60 mx, aI cI m6 2 g46_2] := hD
          refine lv_goto (tgt := 22) hx hb dX6_plays_123 (by decide) ?_
          revert hP; revert hD; revert hS; revert hl
          subst eg46_2
          subst eg46_1
          intro hl hS hD hP
          exact ih 0 (upd (upd (upd (gv46_1_X6_plays mx fi di) 12 1) 13 (((gv46_1_X6_plays mx fi di) 10) - ((gv46_1_X6_plays mx fi di) 11))) 14 (((gv46_1_X6_plays mx fi di) 14) + 1)) si bi (gv46_2_X6_plays mx fi di) (by have h := Eq.mp (congrArg (mpQ n) (mpS_0 (x := (ii, fi, si, bi, di)) c_51)) (mpQ_S (mx := mx) hQ c_34); dsimp only [mpE, mpG, mpI, mpF, mpD, mpA] at h; dsimp only [gv46_1_X6_plays, gv46_2_X6_plays]; exact h) (Or.inl rfl) (by have h := ((mpl_c (mx := mx) (n := n) (x := (ii, fi, si, bi, di)) c_30 c_34).trans (congrArg (mpl mx n) (mpS_0 (x := (ii, fi, si, bi, di)) c_51))).symm.trans hR; dsimp only [mpE, mpG, mpI, mpF, mpD, mpA] at h; dsimp only [gv46_1_X6_plays, gv46_2_X6_plays]; exact h) H locs ls (lv_sub hl [3, 0] rfl) hP hD hS
        · refine lv_aload_n hx hb dX6_plays_54 rfl (lv_at hl 1 rfl) ?_
          refine ag_callVi (As := []) (rest := []) hx hb hml hown hG hK hN hA hP hD hS hl (ct_X6_calls l D cI cC cL m0 m1 m2 m3 m4 m5 m6 g46_1 si bi g46_2 (by rw [← eg46_1]; unfold gv46_1_X6_plays; exact pre55 hQ.1 hQ.2.1) hQ.2.2.1) fX6_calls k_787 (ag_cut_2 3 [] [oM m0 m1 m2 m3 m4 m5 m6 g46_1, aI cI m1 89 si, aI cI m2 356 bi] [aI cI m5 60 mx] [aI cI m6 2 g46_2] [] rfl rfl rfl) (q0 := 0) rfl rfl rfl rfl (Nat.le_of_ble_eq_true rfl) ⟨Nat.le_of_ble_eq_true rfl, Nat.le_of_ble_eq_true rfl⟩ ⟨Nat.zero_le _, Nat.zero_le _⟩ dX6_plays_55 (fun r w1 H locs hw hP hD hS => ?_)
          obtain ⟨rfl, hw⟩ := hw
          generalize eg55_3 : sw0_X6_calls g46_1 si g46_2 = g55_3 at hw
          replace eg55_3 : gv55_3_X6_plays mx fi si di = g55_3 := (by rw [← eg55_3, ← eg46_1, ← eg46_2]; rfl)
          generalize eg55_4 : sw1_X6_calls g46_1 si g46_2 = g55_4 at hw
          replace eg55_4 : gv55_4_X6_plays mx fi si di = g55_4 := (by rw [← eg55_4, ← eg46_1, ← eg46_2]; rfl)
          generalize eg55_5 : sw2_X6_calls g46_1 si bi g46_2 = g55_5 at hw
          replace eg55_5 : gv55_5_X6_plays mx fi si bi di = g55_5 := (by rw [← eg55_5, ← eg46_1, ← eg46_2]; rfl)
          subst hw
          have hP : va_P D vwCl [oM m0 m1 m2 m3 m4 m5 m6 g55_3, aI cI m1 89 g55_4, aI cI m2 356 g55_5, aI cI m5 60 mx, aI cI m6 2 g46_2] H := hP
          have hD : va_D A [oM m0 m1 m2 m3 m4 m5 m6 g55_3, aI cI m1 89 g55_4, aI cI m2 356 g55_5, aI cI m5 60 mx, aI cI m6 2 g46_2] := hD
          refine lv_goto (tgt := 62) hx hb dX6_plays_58 (by decide) ?_
          refine lv_istore_n (lv' := [(3, .int (sr_X6_calls g46_1 si g46_2)), (2, .int (sr_X6_reads (upd fi 11 (fi 10)) mx di)), (0, .ref m0), (1, .int ii)]) hx hb dX6_plays_62 rfl hl (by decide) rfl (fun ls hl => ?_)
          refine lv_iload_n hx hb dX6_plays_63 rfl (lv_at hl 1 rfl) ?_
          refine lv_if_eq (tgt := 77) hx hb dX6_plays_64 (by decide) (fun h0 => absurd h0 c_51) (fun _ => ?_)
          refine lv_iload_n hx hb dX6_plays_67 rfl (lv_at hl 0 rfl) ?_
          refine lv_ldc (v := (-1000000001)) hx hb hown (hG _ k_618) dX6_plays_68 ?_
          refine lv_icmp_le (tgt := 77) hx hb dX6_plays_70 (by decide) (fun c_70 => ?_) (fun c_70 => ?_)
          · refine lv_iconst (v := 0) hx hb dX6_plays_77 (by decide) ?_
            refine lv_istore_n (lv' := [(1, .int 0), (3, .int (sr_X6_calls g46_1 si g46_2)), (2, .int (sr_X6_reads (upd fi 11 (fi 10)) mx di)), (0, .ref m0)]) hx hb dX6_plays_78 rfl hl (by decide) rfl (fun ls hl => ?_)
            refine lv_aload_n hx hb dX6_plays_79 rfl (lv_at hl 3 rfl) ?_
            refine lv_iload_n hx hb dX6_plays_80 rfl (lv_at hl 2 rfl) ?_
            refine lv_if_eq (tgt := 88) hx hb dX6_plays_81 (by decide) (fun h0 => absurd h0 c_51) (fun _ => ?_)
            refine lv_iconst (v := 2) hx hb dX6_plays_84 (by decide) ?_
            refine lv_goto (tgt := 89) hx hb dX6_plays_85 (by decide) ?_
            refine ag_putX6 hx hb hG hown hK hP hD hS 0 17 rfl (by decide) k_553 (by decide) rfl rfl (Nat.le_of_ble_eq_true rfl) dX6_plays_89 (fun H locs hP hD hS => ?_)
            have hP : va_P D vwCl [oM m0 m1 m2 m3 m4 m5 m6 (upd g55_3 12 2), aI cI m1 89 g55_4, aI cI m2 356 g55_5, aI cI m5 60 mx, aI cI m6 2 g46_2] H := hP
            have hD : va_D A [oM m0 m1 m2 m3 m4 m5 m6 (upd g55_3 12 2), aI cI m1 89 g55_4, aI cI m2 356 g55_5, aI cI m5 60 mx, aI cI m6 2 g46_2] := hD
            refine lv_aload_n hx hb dX6_plays_92 rfl (lv_at hl 3 rfl) ?_
            refine lv_iload_n hx hb dX6_plays_93 rfl (lv_at hl 2 rfl) ?_
            refine lv_if_eq (tgt := 101) hx hb dX6_plays_94 (by decide) (fun h0 => absurd h0 c_51) (fun _ => ?_)
            refine lv_iload_n hx hb dX6_plays_97 rfl (lv_at hl 1 rfl) ?_
            refine lv_goto (tgt := 110) hx hb dX6_plays_98 (by decide) ?_
            refine ag_putX6 hx hb hG hown hK hP hD hS 0 18 rfl (by decide) k_554 (by decide) rfl rfl (Nat.le_of_ble_eq_true rfl) dX6_plays_110 (fun H locs hP hD hS => ?_)
            have hP : va_P D vwCl [oM m0 m1 m2 m3 m4 m5 m6 (upd (upd g55_3 12 2) 13 (sr_X6_calls g46_1 si g46_2)), aI cI m1 89 g55_4, aI cI m2 356 g55_5, aI cI m5 60 mx, aI cI m6 2 g46_2] H := hP
            have hD : va_D A [oM m0 m1 m2 m3 m4 m5 m6 (upd (upd g55_3 12 2) 13 (sr_X6_calls g46_1 si g46_2)), aI cI m1 89 g55_4, aI cI m2 356 g55_5, aI cI m5 60 mx, aI cI m6 2 g46_2] := hD
            refine lv_aload_n hx hb dX6_plays_113 rfl (lv_at hl 3 rfl) ?_
            refine lv_dup hx hb dX6_plays_114 rfl ?_
            refine ag_getX6 (v := .int (g55_3 14)) hx hb hG hown hK hP 0 19 rfl (by decide) k_555 rfl dX6_plays_115 ?_
            refine lv_iconst (v := 1) hx hb dX6_plays_118 (by decide) ?_
            refine lv_iadd hx hb dX6_plays_119 ?_
            refine ag_putX6 hx hb hG hown hK hP hD hS 0 19 rfl (by decide) k_555 (by decide) rfl rfl (Nat.le_of_ble_eq_true rfl) dX6_plays_120 (fun H locs hP hD hS => ?_)
            have hP : va_P D vwCl [oM m0 m1 m2 m3 m4 m5 m6 (upd (upd (upd g55_3 12 2) 13 (sr_X6_calls g46_1 si g46_2)) 14 ((g55_3 14) + 1)), aI cI m1 89 g55_4, aI cI m2 356 g55_5, aI cI m5 60 mx, aI cI m6 2 g46_2] H := hP
            have hD : va_D A [oM m0 m1 m2 m3 m4 m5 m6 (upd (upd (upd g55_3 12 2) 13 (sr_X6_calls g46_1 si g46_2)) 14 ((g55_3 14) + 1)), aI cI m1 89 g55_4, aI cI m2 356 g55_5, aI cI m5 60 mx, aI cI m6 2 g46_2] := hD
            refine lv_goto (tgt := 22) hx hb dX6_plays_123 (by decide) ?_
            revert hP; revert hD; revert hS; revert hl
            subst eg55_5
            subst eg55_4
            subst eg55_3
            subst eg46_2
            subst eg46_1
            intro hl hS hD hP
            exact ih 0 (upd (upd (upd (gv55_3_X6_plays mx fi si di) 12 2) 13 (sr_X6_calls (gv46_1_X6_plays mx fi di) si (gv46_2_X6_plays mx fi di))) 14 (((gv55_3_X6_plays mx fi si di) 14) + 1)) (gv55_4_X6_plays mx fi si di) (gv55_5_X6_plays mx fi si bi di) (gv46_2_X6_plays mx fi di) (by have h := Eq.mp (congrArg (mpQ n) (mpS_1 (x := (ii, fi, si, bi, di)) c_51 c_70)) (mpQ_S (mx := mx) hQ c_34); dsimp only [mpE, mpG, mpI, mpF, mpD, mpA] at h; dsimp only [gv46_1_X6_plays, gv46_2_X6_plays, gv55_3_X6_plays, gv55_4_X6_plays, gv55_5_X6_plays]; exact h) (Or.inl rfl) (by have h := ((mpl_c (mx := mx) (n := n) (x := (ii, fi, si, bi, di)) c_30 c_34).trans (congrArg (mpl mx n) (mpS_1 (x := (ii, fi, si, bi, di)) c_51 c_70))).symm.trans hR; dsimp only [mpE, mpG, mpI, mpF, mpD, mpA] at h; dsimp only [gv46_1_X6_plays, gv46_2_X6_plays, gv55_3_X6_plays, gv55_4_X6_plays, gv55_5_X6_plays]; exact h) H locs ls (lv_sub hl [3, 0] rfl) hP hD hS
          · refine lv_iconst (v := 1) hx hb dX6_plays_73 (by decide) ?_
            refine lv_goto (tgt := 78) hx hb dX6_plays_74 (by decide) ?_
            refine lv_istore_n (lv' := [(1, .int 1), (3, .int (sr_X6_calls g46_1 si g46_2)), (2, .int (sr_X6_reads (upd fi 11 (fi 10)) mx di)), (0, .ref m0)]) hx hb dX6_plays_78 rfl hl (by decide) rfl (fun ls hl => ?_)
            refine lv_aload_n hx hb dX6_plays_79 rfl (lv_at hl 3 rfl) ?_
            refine lv_iload_n hx hb dX6_plays_80 rfl (lv_at hl 2 rfl) ?_
            refine lv_if_eq (tgt := 88) hx hb dX6_plays_81 (by decide) (fun h0 => absurd h0 c_51) (fun _ => ?_)
            refine lv_iconst (v := 2) hx hb dX6_plays_84 (by decide) ?_
            refine lv_goto (tgt := 89) hx hb dX6_plays_85 (by decide) ?_
            refine ag_putX6 hx hb hG hown hK hP hD hS 0 17 rfl (by decide) k_553 (by decide) rfl rfl (Nat.le_of_ble_eq_true rfl) dX6_plays_89 (fun H locs hP hD hS => ?_)
            have hP : va_P D vwCl [oM m0 m1 m2 m3 m4 m5 m6 (upd g55_3 12 2), aI cI m1 89 g55_4, aI cI m2 356 g55_5, aI cI m5 60 mx, aI cI m6 2 g46_2] H := hP
            have hD : va_D A [oM m0 m1 m2 m3 m4 m5 m6 (upd g55_3 12 2), aI cI m1 89 g55_4, aI cI m2 356 g55_5, aI cI m5 60 mx, aI cI m6 2 g46_2] := hD
            refine lv_aload_n hx hb dX6_plays_92 rfl (lv_at hl 3 rfl) ?_
            refine lv_iload_n hx hb dX6_plays_93 rfl (lv_at hl 2 rfl) ?_
            refine lv_if_eq (tgt := 101) hx hb dX6_plays_94 (by decide) (fun h0 => absurd h0 c_51) (fun _ => ?_)
            refine lv_iload_n hx hb dX6_plays_97 rfl (lv_at hl 1 rfl) ?_
            refine lv_goto (tgt := 110) hx hb dX6_plays_98 (by decide) ?_
            refine ag_putX6 hx hb hG hown hK hP hD hS 0 18 rfl (by decide) k_554 (by decide) rfl rfl (Nat.le_of_ble_eq_true rfl) dX6_plays_110 (fun H locs hP hD hS => ?_)
            have hP : va_P D vwCl [oM m0 m1 m2 m3 m4 m5 m6 (upd (upd g55_3 12 2) 13 (sr_X6_calls g46_1 si g46_2)), aI cI m1 89 g55_4, aI cI m2 356 g55_5, aI cI m5 60 mx, aI cI m6 2 g46_2] H := hP
            have hD : va_D A [oM m0 m1 m2 m3 m4 m5 m6 (upd (upd g55_3 12 2) 13 (sr_X6_calls g46_1 si g46_2)), aI cI m1 89 g55_4, aI cI m2 356 g55_5, aI cI m5 60 mx, aI cI m6 2 g46_2] := hD
            refine lv_aload_n hx hb dX6_plays_113 rfl (lv_at hl 3 rfl) ?_
            refine lv_dup hx hb dX6_plays_114 rfl ?_
            refine ag_getX6 (v := .int (g55_3 14)) hx hb hG hown hK hP 0 19 rfl (by decide) k_555 rfl dX6_plays_115 ?_
            refine lv_iconst (v := 1) hx hb dX6_plays_118 (by decide) ?_
            refine lv_iadd hx hb dX6_plays_119 ?_
            refine ag_putX6 hx hb hG hown hK hP hD hS 0 19 rfl (by decide) k_555 (by decide) rfl rfl (Nat.le_of_ble_eq_true rfl) dX6_plays_120 (fun H locs hP hD hS => ?_)
            have hP : va_P D vwCl [oM m0 m1 m2 m3 m4 m5 m6 (upd (upd (upd g55_3 12 2) 13 (sr_X6_calls g46_1 si g46_2)) 14 ((g55_3 14) + 1)), aI cI m1 89 g55_4, aI cI m2 356 g55_5, aI cI m5 60 mx, aI cI m6 2 g46_2] H := hP
            have hD : va_D A [oM m0 m1 m2 m3 m4 m5 m6 (upd (upd (upd g55_3 12 2) 13 (sr_X6_calls g46_1 si g46_2)) 14 ((g55_3 14) + 1)), aI cI m1 89 g55_4, aI cI m2 356 g55_5, aI cI m5 60 mx, aI cI m6 2 g46_2] := hD
            refine lv_goto (tgt := 22) hx hb dX6_plays_123 (by decide) ?_
            revert hP; revert hD; revert hS; revert hl
            subst eg55_5
            subst eg55_4
            subst eg55_3
            subst eg46_2
            subst eg46_1
            intro hl hS hD hP
            exact ih 1 (upd (upd (upd (gv55_3_X6_plays mx fi si di) 12 2) 13 (sr_X6_calls (gv46_1_X6_plays mx fi di) si (gv46_2_X6_plays mx fi di))) 14 (((gv55_3_X6_plays mx fi si di) 14) + 1)) (gv55_4_X6_plays mx fi si di) (gv55_5_X6_plays mx fi si bi di) (gv46_2_X6_plays mx fi di) (by have h := Eq.mp (congrArg (mpQ n) (mpS_2 (x := (ii, fi, si, bi, di)) c_51 c_70)) (mpQ_S (mx := mx) hQ c_34); dsimp only [mpE, mpG, mpI, mpF, mpD, mpA] at h; dsimp only [gv46_1_X6_plays, gv46_2_X6_plays, gv55_3_X6_plays, gv55_4_X6_plays, gv55_5_X6_plays]; exact h) (Or.inr rfl) (by have h := ((mpl_c (mx := mx) (n := n) (x := (ii, fi, si, bi, di)) c_30 c_34).trans (congrArg (mpl mx n) (mpS_2 (x := (ii, fi, si, bi, di)) c_51 c_70))).symm.trans hR; dsimp only [mpE, mpG, mpI, mpF, mpD, mpA] at h; dsimp only [gv46_1_X6_plays, gv46_2_X6_plays, gv55_3_X6_plays, gv55_4_X6_plays, gv55_5_X6_plays]; exact h) H locs ls (lv_sub hl [3, 0] rfl) hP hD hS
