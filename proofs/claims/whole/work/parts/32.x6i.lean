/-! the model: what would be -/
theorem mq_upd {ms : Nat → Int32} {k : Nat} {v : Int32} (h : mq ms) (hk : ¬ k = 18) : mq (upd ms k v) := by
  obtain ⟨N, h1, h2⟩ := h
  refine ⟨N, ?_, h2⟩
  unfold upd
  rw [if_neg (fun e => hk e.symm)]
  exact h1
def msa (t lv : Int32) : Nat → Nat → Int32
  | 0, _ => -1000000004
  | n + 1, i => if sr_X6_seaLevel (t + nI i) < lv then msa t lv n (i + 1) else nI i
def sr_X6_seaAt (ms : Nat → Int32) (p1 : Int32) : Int32 := if sr_X6_in p1 (-400) 400 = 0 then (-1000000001) else msa (ms 0) p1 2017 0
def gv36_1_X6_would (mf : Nat → Int32) (ms : Nat → Int32) (p1 : Int32) : Nat → Int32 := (mtl p1.toNatClampNeg (mf, ms)).1
def gv36_2_X6_would (mf : Nat → Int32) (ms : Nat → Int32) (p1 : Int32) : Nat → Int32 := (mtl p1.toNatClampNeg (mf, ms)).2
def j102_0_X6_would (mf : Nat → Int32) (ms : Nat → Int32) (p1 : Int32) (p2 : Int32) : Int32 := if p2 = 0 then sr_X6_level (gv36_2_X6_would mf ms p1) else if p2 = 1 then ((gv36_2_X6_would mf ms p1) 11) - (ms 11) else if p2 = 2 then ((gv36_2_X6_would mf ms p1) 12) - (ms 12) else (gv36_2_X6_would mf ms p1) 2
def sr_X6_would (mf : Nat → Int32) (ms : Nat → Int32) (p1 : Int32) (p2 : Int32) : Int32 := if (sr_X6_in p1 0 300) = 0 then (-1000000001) else if (sr_X6_in p2 0 3) = 0 then (-1000000001) else j102_0_X6_would mf ms p1 p2
def sw0_X6_would (mf : Nat → Int32) (ms : Nat → Int32) (p1 : Int32) (p2 : Int32) : Nat → Int32 := if (sr_X6_in p1 0 300) = 0 then mf else if (sr_X6_in p2 0 3) = 0 then mf else (gv36_1_X6_would mf ms p1)
def sw2_X6_would (ms : Nat → Int32) (mt : Nat → Int32) (p1 : Int32) (p2 : Int32) : Nat → Int32 := if (sr_X6_in p1 0 300) = 0 then mt else if (sr_X6_in p2 0 3) = 0 then mt else ms
abbrev po_X6_would (cI cC cL : ClassId) (m0 m1 m2 m3 m4 m5 m6 : Nat) (mf ms mt : Nat → Int32) (p1 : Int32) (p2 : Int32) (hq : mq ms) : Int32 → va_W → Prop := fun r w' => sr_X6_would mf ms p1 p2 = r ∧ [oM m0 m1 m2 m3 m4 m5 m6 (sw0_X6_would mf ms p1 p2), aI cI m1 89 ms, aI cI m4 89 (sw2_X6_would ms mt p1 p2)] = w'
set_option maxHeartbeats 4000000 in
set_option maxRecDepth 100000 in
theorem ct_X6_would (l : Launch) (D : va_G) (cI cC cL : ClassId) (m0 m1 m2 m3 m4 m5 m6 : Nat) (mf ms mt : Nat → Int32) (p1 : Int32) (p2 : Int32) (hq : mq ms) : ag_MI l yX6_would cX6_would 4 .int 7 149 D cI cC cL [.ref m0, .int p1, .int p2] [oM m0 m1 m2 m3 m4 m5 m6 mf, aI cI m1 89 ms, aI cI m4 89 mt] (po_X6_would cI cC cL m0 m1 m2 m3 m4 m5 m6 mf ms mt p1 p2 hq) := by
  refine ag_MI.of (plainFor_of_name (by decide)) (Nat.le_of_ble_eq_true rfl) ?_
  intro p e s m below meth c hx hb hr hlocks hml hown hmn hG hK A hN hA H locs hP hD hS ls hl
  have hl : lv_has ls 4 [(0, .ref m0), (1, .int p1), (2, .int p2)] := hl
  refine lv_iload_n hx hb dX6_would_0 rfl (lv_at hl 1 rfl) ?_
  refine lv_iconst (v := 0) hx hb dX6_would_1 (by decide) ?_
  refine lv_sipush (v := 300) hx hb dX6_would_2 (by decide) ?_
  refine ag_callSi (As := [.int p1, .int 0, .int 300]) (rest := []) hx hb hml hown hG hK hN hA hP hD hS hl (ct_X6_in l D cI cC cL p1 0 300) fX6_in k_607 ag_cut_0 rfl (Nat.le_of_ble_eq_true rfl) ⟨Nat.le_of_ble_eq_true rfl, Nat.le_of_ble_eq_true rfl⟩ ⟨Nat.zero_le _, Nat.zero_le _⟩ dX6_would_5 (fun r w1 H locs hw hP hD hS => ?_)
  obtain ⟨rfl, hw⟩ := hw
  subst hw
  have hP : va_P D vwCl [oM m0 m1 m2 m3 m4 m5 m6 mf, aI cI m1 89 ms, aI cI m4 89 mt] H := hP
  have hD : va_D A [oM m0 m1 m2 m3 m4 m5 m6 mf, aI cI m1 89 ms, aI cI m4 89 mt] := hD
  refine lv_if_eq (tgt := 20) hx hb dX6_would_8 (by decide) (fun c_8 => ?_) (fun c_8 => ?_)
  · refine lv_ldc (v := (-1000000001)) hx hb hown (hG _ k_618) dX6_would_20 ?_
    exact ag_iret [m0, m1, m4] hx hb hr rfl hlocks hP hS rfl rfl ⟨(by unfold sr_X6_would; rw [if_pos c_8]), (by show _ = _; rw [show sw0_X6_would mf ms p1 p2 = mf from (by unfold sw0_X6_would; rw [if_pos c_8]), show sw2_X6_would ms mt p1 p2 = mt from (by unfold sw2_X6_would; rw [if_pos c_8])])⟩ dX6_would_22
  · refine lv_iload_n hx hb dX6_would_11 rfl (lv_at hl 2 rfl) ?_
    refine lv_iconst (v := 0) hx hb dX6_would_12 (by decide) ?_
    refine lv_iconst (v := 3) hx hb dX6_would_13 (by decide) ?_
    refine ag_callSi (As := [.int p2, .int 0, .int 3]) (rest := []) hx hb hml hown hG hK hN hA hP hD hS hl (ct_X6_in l D cI cC cL p2 0 3) fX6_in k_607 ag_cut_0 rfl (Nat.le_of_ble_eq_true rfl) ⟨Nat.le_of_ble_eq_true rfl, Nat.le_of_ble_eq_true rfl⟩ ⟨Nat.zero_le _, Nat.zero_le _⟩ dX6_would_14 (fun r w1 H locs hw hP hD hS => ?_)
    obtain ⟨rfl, hw⟩ := hw
    subst hw
    have hP : va_P D vwCl [oM m0 m1 m2 m3 m4 m5 m6 mf, aI cI m1 89 ms, aI cI m4 89 mt] H := hP
    have hD : va_D A [oM m0 m1 m2 m3 m4 m5 m6 mf, aI cI m1 89 ms, aI cI m4 89 mt] := hD
    refine lv_if_ne (tgt := 23) hx hb dX6_would_17 (by decide) (fun c_17 => ?_) (fun c_17 => ?_)
    · refine lv_aload_n hx hb dX6_would_23 rfl (lv_at hl 0 rfl) ?_
      refine ag_getX6 (v := .ref m1) hx hb hG hown hK hP 0 0 rfl (by decide) k_536 rfl dX6_would_24 ?_
      refine lv_aload_n hx hb dX6_would_27 rfl (lv_at hl 0 rfl) ?_
      refine ag_getX6 (v := .ref m4) hx hb hG hown hK hP 0 3 rfl (by decide) k_539 rfl dX6_would_28 ?_
      refine ag_callSv (As := [.ref m1, .ref m4]) (rest := []) hx hb hml hown hG hK hN hA hP hD hS hl (ct_X6_copies l D cI cC cL m1 m4 ms mt) fX6_copies k_711 (ag_cut_1 [oM m0 m1 m2 m3 m4 m5 m6 mf] [] rfl) rfl (Nat.le_of_ble_eq_true rfl) ⟨Nat.le_of_ble_eq_true rfl, Nat.le_of_ble_eq_true rfl⟩ ⟨Nat.zero_le _, Nat.zero_le _⟩ dX6_would_31 (fun w1 H locs hw hP hD hS => ?_)
      have hw : _ = w1 := hw
      subst hw
      have hP : va_P D vwCl [oM m0 m1 m2 m3 m4 m5 m6 mf, aI cI m1 89 ms, aI cI m4 89 ms] H := hP
      have hD : va_D A [oM m0 m1 m2 m3 m4 m5 m6 mf, aI cI m1 89 ms, aI cI m4 89 ms] := hD
      refine lv_aload_n hx hb dX6_would_34 rfl (lv_at hl 0 rfl) ?_
      refine lv_iload_n hx hb dX6_would_35 rfl (lv_at hl 1 rfl) ?_
      refine ag_callVv (As := [.int p1]) (rest := []) hx hb hml hown hG hK hN hA hP hD hS hl (ct_X6_ticks l D cI cC cL m0 m1 m2 m3 m4 m5 m6 mf ms p1 p1.toNatClampNeg (ag_nn (in_is c_8).1) hq) fX6_ticks k_636 (ag_cut_1 [] [aI cI m4 89 ms] rfl) (q0 := 0) rfl rfl rfl rfl (Nat.le_of_ble_eq_true rfl) ⟨Nat.le_of_ble_eq_true rfl, Nat.le_of_ble_eq_true rfl⟩ ⟨Nat.zero_le _, Nat.zero_le _⟩ dX6_would_36 (fun w1 H locs hw hP hD hS => ?_)
      have hw : _ = w1 := hw
      generalize eg36_1 : (mtl p1.toNatClampNeg (mf, ms)).1 = g36_1 at hw
      replace eg36_1 : gv36_1_X6_would mf ms p1 = g36_1 := (by rw [← eg36_1]; rfl)
      generalize eg36_2 : (mtl p1.toNatClampNeg (mf, ms)).2 = g36_2 at hw
      replace eg36_2 : gv36_2_X6_would mf ms p1 = g36_2 := (by rw [← eg36_2]; rfl)
      subst hw
      have hP : va_P D vwCl [oM m0 m1 m2 m3 m4 m5 m6 g36_1, aI cI m1 89 g36_2, aI cI m4 89 ms] H := hP
      have hD : va_D A [oM m0 m1 m2 m3 m4 m5 m6 g36_1, aI cI m1 89 g36_2, aI cI m4 89 ms] := hD
      refine lv_iload_n hx hb dX6_would_39 rfl (lv_at hl 2 rfl) ?_
      have J102 : ∀ (H : Heap) (locs : List Loc), va_P D vwCl [oM m0 m1 m2 m3 m4 m5 m6 g36_1, aI cI m1 89 g36_2, aI cI m4 89 ms] H → va_D A [oM m0 m1 m2 m3 m4 m5 m6 g36_1, aI cI m1 89 g36_2, aI cI m4 89 ms] → va_S A s.heap H locs → ∀ (ls : Array Slot), lv_has ls 4 [(0, .ref m0), (1, .int p1), (2, .int p2)] → W p l e (ag_rm 7 149) s m ([.ref m0, .int p1, .int p2] : List Value).toArray below meth c H locs 0 0 (MQ below (va_Qi (po_X6_would cI cC cL m0 m1 m2 m3 m4 m5 m6 mf ms mt p1 p2 hq) (ag_Out D [oM m0 m1 m2 m3 m4 m5 m6 mf, aI cI m1 89 ms, aI cI m4 89 mt]) A) ([.ref m0, .int p1, .int p2] : List Value).toArray s 0 0 A) (F0 m 102 ls [.int (j102_0_X6_would mf ms p1 p2)]) := by
        intro H locs hP hD hS ls hl
        refine lv_istore_n (lv' := [(3, .int (j102_0_X6_would mf ms p1 p2)), (0, .ref m0), (1, .int p1), (2, .int p2)]) hx hb dX6_would_102 rfl hl (by decide) rfl (fun ls hl => ?_)
        refine lv_aload_n hx hb dX6_would_103 rfl (lv_at hl 1 rfl) ?_
        refine ag_getX6 (v := .ref m4) hx hb hG hown hK hP 0 3 rfl (by decide) k_539 rfl dX6_would_104 ?_
        refine lv_aload_n hx hb dX6_would_107 rfl (lv_at hl 1 rfl) ?_
        refine ag_getX6 (v := .ref m1) hx hb hG hown hK hP 0 0 rfl (by decide) k_536 rfl dX6_would_108 ?_
        refine ag_callSv (As := [.ref m4, .ref m1]) (rest := []) hx hb hml hown hG hK hN hA hP hD hS hl (ct_X6_copies l D cI cC cL m4 m1 ms g36_2) fX6_copies k_711 (ag_cut_2s 1 [oM m0 m1 m2 m3 m4 m5 m6 g36_1] [aI cI m4 89 ms] [] [aI cI m1 89 g36_2] [] rfl rfl rfl) rfl (Nat.le_of_ble_eq_true rfl) ⟨Nat.le_of_ble_eq_true rfl, Nat.le_of_ble_eq_true rfl⟩ ⟨Nat.zero_le _, Nat.zero_le _⟩ dX6_would_111 (fun w1 H locs hw hP hD hS => ?_)
        have hw : _ = w1 := hw
        subst hw
        have hP : va_P D vwCl [oM m0 m1 m2 m3 m4 m5 m6 g36_1, aI cI m1 89 ms, aI cI m4 89 ms] H := hP
        have hD : va_D A [oM m0 m1 m2 m3 m4 m5 m6 g36_1, aI cI m1 89 ms, aI cI m4 89 ms] := hD
        refine lv_iload_n hx hb dX6_would_114 rfl (lv_at hl 0 rfl) ?_
        revert hP; revert hD; revert hS; revert hl
        subst eg36_2
        subst eg36_1
        intro hl hS hD hP
        exact ag_iret [m0, m1, m4] hx hb hr rfl hlocks hP hS rfl rfl ⟨(by unfold sr_X6_would; rw [if_neg c_8, if_neg c_17]), (by show _ = _; rw [show sw0_X6_would mf ms p1 p2 = (gv36_1_X6_would mf ms p1) from (by unfold sw0_X6_would; rw [if_neg c_8, if_neg c_17]), show sw2_X6_would ms mt p1 p2 = ms from (by unfold sw2_X6_would; rw [if_neg c_8, if_neg c_17])])⟩ dX6_would_115
      refine lv_if_ne (tgt := 50) hx hb dX6_would_40 (by decide) (fun c_40 => ?_) (fun c_40 => ?_)
      · refine lv_iload_n hx hb dX6_would_50 rfl (lv_at hl 2 rfl) ?_
        refine lv_iconst (v := 1) hx hb dX6_would_51 (by decide) ?_
        refine lv_icmp_ne (tgt := 73) hx hb dX6_would_52 (by decide) (fun c_52 => ?_) (fun c_52 => ?_)
        · refine lv_iload_n hx hb dX6_would_73 rfl (lv_at hl 2 rfl) ?_
          refine lv_iconst (v := 2) hx hb dX6_would_74 (by decide) ?_
          refine lv_icmp_ne (tgt := 96) hx hb dX6_would_75 (by decide) (fun c_75 => ?_) (fun c_75 => ?_)
          · refine lv_aload_n hx hb dX6_would_96 rfl (lv_at hl 0 rfl) ?_
            refine ag_getX6 (v := .ref m1) hx hb hG hown hK hP 0 0 rfl (by decide) k_536 rfl dX6_would_97 ?_
            refine lv_iconst (v := 2) hx hb dX6_would_100 (by decide) ?_
            refine ag_ild (k := 2) (v := g36_2 2) hx hb hK hP 1 rfl rfl (Nat.le_of_ble_eq_true rfl) (Nat.le_of_ble_eq_true rfl) rfl dX6_would_101 ?_
            revert hP; revert hD; revert hS; revert hl
            subst eg36_2
            subst eg36_1
            intro hl hS hD hP
            simp only [j102_0_X6_would, if_neg c_40, if_neg c_52, if_neg c_75] at J102
            exact J102 H locs hP hD hS _ (lv_sub hl [0, 1, 2] rfl)
          · refine lv_aload_n hx hb dX6_would_78 rfl (lv_at hl 0 rfl) ?_
            refine ag_getX6 (v := .ref m1) hx hb hG hown hK hP 0 0 rfl (by decide) k_536 rfl dX6_would_79 ?_
            refine lv_bipush (v := 12) hx hb dX6_would_82 (by decide) ?_
            refine ag_ild (k := 12) (v := g36_2 12) hx hb hK hP 1 rfl rfl (Nat.le_of_ble_eq_true rfl) (Nat.le_of_ble_eq_true rfl) rfl dX6_would_84 ?_
            refine lv_aload_n hx hb dX6_would_85 rfl (lv_at hl 0 rfl) ?_
            refine ag_getX6 (v := .ref m4) hx hb hG hown hK hP 0 3 rfl (by decide) k_539 rfl dX6_would_86 ?_
            refine lv_bipush (v := 12) hx hb dX6_would_89 (by decide) ?_
            refine ag_ild (k := 12) (v := ms 12) hx hb hK hP 2 rfl rfl (Nat.le_of_ble_eq_true rfl) (Nat.le_of_ble_eq_true rfl) rfl dX6_would_91 ?_
            refine lv_isub hx hb dX6_would_92 ?_
            refine lv_goto (tgt := 102) hx hb dX6_would_93 (by decide) ?_
            revert hP; revert hD; revert hS; revert hl
            subst eg36_2
            subst eg36_1
            intro hl hS hD hP
            simp only [j102_0_X6_would, if_neg c_40, if_neg c_52, if_pos c_75] at J102
            exact J102 H locs hP hD hS _ (lv_sub hl [0, 1, 2] rfl)
        · refine lv_aload_n hx hb dX6_would_55 rfl (lv_at hl 0 rfl) ?_
          refine ag_getX6 (v := .ref m1) hx hb hG hown hK hP 0 0 rfl (by decide) k_536 rfl dX6_would_56 ?_
          refine lv_bipush (v := 11) hx hb dX6_would_59 (by decide) ?_
          refine ag_ild (k := 11) (v := g36_2 11) hx hb hK hP 1 rfl rfl (Nat.le_of_ble_eq_true rfl) (Nat.le_of_ble_eq_true rfl) rfl dX6_would_61 ?_
          refine lv_aload_n hx hb dX6_would_62 rfl (lv_at hl 0 rfl) ?_
          refine ag_getX6 (v := .ref m4) hx hb hG hown hK hP 0 3 rfl (by decide) k_539 rfl dX6_would_63 ?_
          refine lv_bipush (v := 11) hx hb dX6_would_66 (by decide) ?_
          refine ag_ild (k := 11) (v := ms 11) hx hb hK hP 2 rfl rfl (Nat.le_of_ble_eq_true rfl) (Nat.le_of_ble_eq_true rfl) rfl dX6_would_68 ?_
          refine lv_isub hx hb dX6_would_69 ?_
          refine lv_goto (tgt := 102) hx hb dX6_would_70 (by decide) ?_
          revert hP; revert hD; revert hS; revert hl
          subst eg36_2
          subst eg36_1
          intro hl hS hD hP
          simp only [j102_0_X6_would, if_neg c_40, if_pos c_52] at J102
          exact J102 H locs hP hD hS _ (lv_sub hl [0, 1, 2] rfl)
      · refine lv_aload_n hx hb dX6_would_43 rfl (lv_at hl 0 rfl) ?_
        refine ag_callVi (As := []) (rest := []) hx hb hml hown hG hK hN hA hP hD hS hl (ct_X6_level l D cI cC cL m0 m1 m2 m3 m4 m5 m6 g36_1 g36_2) fX6_level k_661 (ag_cut_1 [] [aI cI m4 89 ms] rfl) (q0 := 0) rfl rfl rfl rfl (Nat.le_of_ble_eq_true rfl) ⟨Nat.le_of_ble_eq_true rfl, Nat.le_of_ble_eq_true rfl⟩ ⟨Nat.zero_le _, Nat.zero_le _⟩ dX6_would_44 (fun r w1 H locs hw hP hD hS => ?_)
        obtain ⟨rfl, hw⟩ := hw
        subst hw
        have hP : va_P D vwCl [oM m0 m1 m2 m3 m4 m5 m6 g36_1, aI cI m1 89 g36_2, aI cI m4 89 ms] H := hP
        have hD : va_D A [oM m0 m1 m2 m3 m4 m5 m6 g36_1, aI cI m1 89 g36_2, aI cI m4 89 ms] := hD
        refine lv_goto (tgt := 102) hx hb dX6_would_47 (by decide) ?_
        revert hP; revert hD; revert hS; revert hl
        subst eg36_2
        subst eg36_1
        intro hl hS hD hP
        simp only [j102_0_X6_would, if_pos c_40] at J102
        exact J102 H locs hP hD hS _ (lv_sub hl [0, 1, 2] rfl)
    · refine lv_ldc (v := (-1000000001)) hx hb hown (hG _ k_618) dX6_would_20 ?_
      exact ag_iret [m0, m1, m4] hx hb hr rfl hlocks hP hS rfl rfl ⟨(by unfold sr_X6_would; rw [if_neg c_8, if_pos c_17]), (by show _ = _; rw [show sw0_X6_would mf ms p1 p2 = mf from (by unfold sw0_X6_would; rw [if_neg c_8, if_pos c_17]), show sw2_X6_would ms mt p1 p2 = mt from (by unfold sw2_X6_would; rw [if_neg c_8, if_pos c_17])])⟩ dX6_would_22
abbrev po_X6_seaAt (cI cC cL : ClassId) (m0 m1 m2 m3 m4 m5 m6 : Nat) (mf ms : Nat → Int32) (p1 : Int32) : Int32 → va_W → Prop := fun r w' => sr_X6_seaAt ms p1 = r ∧ [oM m0 m1 m2 m3 m4 m5 m6 mf, aI cI m1 89 ms] = w'
set_option maxHeartbeats 4000000 in
set_option maxRecDepth 100000 in
theorem ct_X6_seaAt (l : Launch) (D : va_G) (cI cC cL : ClassId) (m0 m1 m2 m3 m4 m5 m6 : Nat) (mf ms : Nat → Int32) (p1 : Int32) : ag_MI l yX6_seaAt cX6_seaAt 3 .int 3 62 D cI cC cL [.ref m0, .int p1] [oM m0 m1 m2 m3 m4 m5 m6 mf, aI cI m1 89 ms] (po_X6_seaAt cI cC cL m0 m1 m2 m3 m4 m5 m6 mf ms p1) := by
  refine ag_MI.of (plainFor_of_name (by decide)) (Nat.le_of_ble_eq_true rfl) ?_
  intro p e s m below meth c hx hb hr hlocks hml hown hmn hG hK A hN hA H locs hP hD hS ls hl
  have hl : lv_has ls 3 [(0, .ref m0), (1, .int p1)] := hl
  refine lv_iload_n hx hb dX6_seaAt_0 rfl (lv_at hl 1 rfl) ?_
  refine lv_sipush (v := (-400)) hx hb dX6_seaAt_1 (by decide) ?_
  refine lv_sipush (v := 400) hx hb dX6_seaAt_4 (by decide) ?_
  refine ag_callSi (As := [.int p1, .int (-400), .int 400]) (rest := []) hx hb hml hown hG hK hN hA hP hD hS hl (ct_X6_in l D cI cC cL p1 (-400) 400) fX6_in k_607 ag_cut_0 rfl (Nat.le_of_ble_eq_true rfl) ⟨Nat.le_of_ble_eq_true rfl, Nat.le_of_ble_eq_true rfl⟩ ⟨Nat.zero_le _, Nat.zero_le _⟩ dX6_seaAt_7 (fun r w1 H locs hw hP hD hS => ?_)
  obtain ⟨rfl, hw⟩ := hw
  subst hw
  have hP : va_P D vwCl [oM m0 m1 m2 m3 m4 m5 m6 mf, aI cI m1 89 ms] H := hP
  have hD : va_D A [oM m0 m1 m2 m3 m4 m5 m6 mf, aI cI m1 89 ms] := hD
  refine lv_if_ne (tgt := 16) hx hb dX6_seaAt_10 (by decide) (fun c_10 => ?_) (fun c_10 => ?_)
  · refine lv_iconst (v := 0) hx hb dX6_seaAt_16 (by decide) ?_
    refine lv_istore_n (lv' := [(2, .int 0), (0, .ref m0), (1, .int p1)]) hx hb dX6_seaAt_17 rfl hl (by decide) rfl (fun ls hl => ?_)
    suffices L18 : ∀ (n : Nat) (i : Nat), (hi : i + n = 2017) → (hR : msa (ms 0) p1 n i = msa (ms 0) p1 2017 0) → ∀ (H : Heap) (locs : List Loc) (ls : Array Slot), lv_has ls 3 [(0, .ref m0), (1, .int p1), (2, .int (nI i))] → va_P D vwCl [oM m0 m1 m2 m3 m4 m5 m6 mf, aI cI m1 89 ms] H → va_D A [oM m0 m1 m2 m3 m4 m5 m6 mf, aI cI m1 89 ms] → va_S A s.heap H locs → W p l e (ag_rm 3 62) s m ([.ref m0, .int p1] : List Value).toArray below meth c H locs 0 0 (MQ below (va_Qi (po_X6_seaAt cI cC cL m0 m1 m2 m3 m4 m5 m6 mf ms p1) (ag_Out D [oM m0 m1 m2 m3 m4 m5 m6 mf, aI cI m1 89 ms]) A) ([.ref m0, .int p1] : List Value).toArray s 0 0 A) (F0 m 18 ls []) from L18 2017 0 (by omega) rfl H locs ls (lv_sub hl [1, 2, 0] rfl) hP hD hS
    intro n
    induction n with
    | zero =>
      intro i hi hR H locs ls hl hP hD hS
      refine lv_iload_n hx hb dX6_seaAt_18 rfl (lv_at hl 2 rfl) ?_
      refine lv_sipush (v := 2016) hx hb dX6_seaAt_19 (by decide) ?_
      refine lv_icmp_gt (tgt := 48) hx hb dX6_seaAt_22 (by decide) (fun _ => ?_) (fun h0 => absurd (nI_lt (a := 2016) (by omega) (by omega)) h0)
      refine lv_ldc (v := (-1000000004)) hx hb hown (hG _ k_678) dX6_seaAt_48 ?_
      exact ag_iret [m0, m1] hx hb hr rfl hlocks hP hS rfl rfl ⟨(by unfold sr_X6_seaAt; rw [if_neg c_10, ← hR]; rfl), rfl⟩ dX6_seaAt_50
    | succ n ih =>
      intro i hi hR H locs ls hl hP hD hS
      refine lv_iload_n hx hb dX6_seaAt_18 rfl (lv_at hl 2 rfl) ?_
      refine lv_sipush (v := 2016) hx hb dX6_seaAt_19 (by decide) ?_
      refine lv_icmp_gt (tgt := 48) hx hb dX6_seaAt_22 (by decide) (fun h0 => absurd h0 (nI_nlt (a := 2016) (b := i) (by omega) (by decide))) (fun _ => ?_)
      refine lv_aload_n hx hb dX6_seaAt_25 rfl (lv_at hl 0 rfl) ?_
      refine ag_getX6 (v := .ref m1) hx hb hG hown hK hP 0 0 rfl (by decide) k_536 rfl dX6_seaAt_26 ?_
      refine lv_iconst (v := 0) hx hb dX6_seaAt_29 (by decide) ?_
      refine ag_ild (k := 0) (v := ms 0) hx hb hK hP 1 rfl rfl (Nat.le_of_ble_eq_true rfl) (Nat.le_of_ble_eq_true rfl) rfl dX6_seaAt_30 ?_
      refine lv_iload_n hx hb dX6_seaAt_31 rfl (lv_at hl 2 rfl) ?_
      refine lv_iadd hx hb dX6_seaAt_32 ?_
      refine ag_callSi (As := [.int ((ms 0) + (nI i))]) (rest := []) hx hb hml hown hG hK hN hA hP hD hS hl (ct_X6_seaLevel l D cI cC cL ((ms 0) + (nI i))) fX6_seaLevel k_652 ag_cut_0 rfl (Nat.le_of_ble_eq_true rfl) ⟨Nat.le_of_ble_eq_true rfl, Nat.le_of_ble_eq_true rfl⟩ ⟨Nat.zero_le _, Nat.zero_le _⟩ dX6_seaAt_33 (fun r w1 H locs hw hP hD hS => ?_)
      obtain ⟨rfl, hw⟩ := hw
      subst hw
      have hP : va_P D vwCl [oM m0 m1 m2 m3 m4 m5 m6 mf, aI cI m1 89 ms] H := hP
      have hD : va_D A [oM m0 m1 m2 m3 m4 m5 m6 mf, aI cI m1 89 ms] := hD
      refine lv_iload_n hx hb dX6_seaAt_36 rfl (lv_at hl 1 rfl) ?_
      refine lv_icmp_lt (tgt := 42) hx hb dX6_seaAt_37 (by decide) (fun c_37 => ?_) (fun c_37 => ?_)
      · refine lv_iinc (v := nI (i + 1)) (lv' := [(2, .int (nI (i + 1))), (0, .ref m0), (1, .int p1)]) hx hb dX6_seaAt_42 hl (k := 2) rfl (nI_1 i) (by decide) rfl (fun ls hl => ?_)
        refine lv_goto (tgt := 18) hx hb dX6_seaAt_45 (by decide) ?_
        exact ih (i + 1) (by omega) ((show msa (ms 0) p1 (n + 1) i = msa (ms 0) p1 n (i + 1) by rw [msa, if_pos c_37]).symm.trans hR) H locs ls (lv_sub hl [1, 2, 0] rfl) hP hD hS
      · refine lv_iload_n hx hb dX6_seaAt_40 rfl (lv_at hl 2 rfl) ?_
        exact ag_iret [m0, m1] hx hb hr rfl hlocks hP hS rfl rfl ⟨(by unfold sr_X6_seaAt; rw [if_neg c_10, ← hR, msa, if_neg c_37]), rfl⟩ dX6_seaAt_41
  · refine lv_ldc (v := (-1000000001)) hx hb hown (hG _ k_618) dX6_seaAt_13 ?_
    exact ag_iret [m0, m1] hx hb hr rfl hlocks hP hS rfl rfl ⟨(by unfold sr_X6_seaAt; rw [if_pos c_10]), rfl⟩ dX6_seaAt_15
abbrev mbu : Type := Int32 × Int32 × (Nat → Int32)
def mbT (N : Nat) (ms mf : Nat → Int32) (k : Nat) (i : Nat) : mtu := mtl N (mf, upd ms k (nI i))
def mbE (N : Nat) (ms mf : Nat → Int32) (i : Nat) : Int32 := ((mbT N ms mf 4 i).2 11 - ms 11) - ((mbT N ms mf 4 i).2 12 - ms 12)
def mbM (e m : Int32) (i : Nat) : Int32 := if nI i = 0 then 1 else if e ≤ m then 0 else 1
def mbS (N : Nat) (ms : Nat → Int32) (i : Nat) (x : mbu) : mbu := (if mbM (mbE N ms x.2.2 i) x.2.1 i = 0 then x.1 else nI i, if mbM (mbE N ms x.2.2 i) x.2.1 i = 0 then x.2.1 else mbE N ms x.2.2 i, (mbT N ms x.2.2 4 i).1)
def mbL (N : Nat) (ms : Nat → Int32) : Nat → Nat → mbu → mbu
  | 0, _, x => x
  | n + 1, i, x => mbL N ms n (i + 1) (mbS N ms i x)
abbrev mbX (ms mf : Nat → Int32) (p1 : Int32) : mbu := mbL p1.toNatClampNeg ms 7 0 (0, 0, mf)
def mgE (N : Nat) (ms mf : Nat → Int32) (lv : Int32) (i : Nat) : Int32 := sr_X6_size (sr_X6_level (mbT N ms mf 3 i).2 - lv)
def mgM (e m : Int32) (i : Nat) : Int32 := if nI i = 0 then 1 else if m ≤ e then 0 else 1
def mgS (N : Nat) (ms : Nat → Int32) (lv : Int32) (i : Nat) (x : mbu) : mbu := (if mgM (mgE N ms x.2.2 lv i) x.2.1 i = 0 then x.1 else nI i, if mgM (mgE N ms x.2.2 lv i) x.2.1 i = 0 then x.2.1 else mgE N ms x.2.2 lv i, (mbT N ms x.2.2 3 i).1)
def mgL (N : Nat) (ms : Nat → Int32) (lv : Int32) : Nat → Nat → mbu → mbu
  | 0, _, x => x
  | n + 1, i, x => mgL N ms lv n (i + 1) (mgS N ms lv i x)
abbrev mgX (ms mf : Nat → Int32) (p1 p2 : Int32) : mbu := mgL p1.toNatClampNeg ms p2 9 0 (0, 0, mf)
def sr_X6_best (mf ms : Nat → Int32) (p1 p2 : Int32) : Int32 := if sr_X6_in p1 1 150 = 0 then (-1000000001) else if sr_X6_in p2 0 1 = 0 then (-1000000001) else if p2 = 0 then (mbX ms mf p1).1 else (mbX ms mf p1).2.1
def bestW (mf ms : Nat → Int32) (p1 p2 : Int32) : Nat → Int32 := if sr_X6_in p1 1 150 = 0 then mf else if sr_X6_in p2 0 1 = 0 then mf else (mbX ms mf p1).2.2
def bestT (ms mt : Nat → Int32) (p1 p2 : Int32) : Nat → Int32 := if sr_X6_in p1 1 150 = 0 then mt else if sr_X6_in p2 0 1 = 0 then mt else ms
def sr_X6_gatesFor (mf ms : Nat → Int32) (p1 p2 : Int32) : Int32 := if sr_X6_in p1 1 150 = 0 then (-1000000001) else if sr_X6_in p2 (-400) 600 = 0 then (-1000000001) else (mgX ms mf p1 p2).1
def gatesW (mf ms : Nat → Int32) (p1 p2 : Int32) : Nat → Int32 := if sr_X6_in p1 1 150 = 0 then mf else if sr_X6_in p2 (-400) 600 = 0 then mf else (mgX ms mf p1 p2).2.2
def gatesT (ms mt : Nat → Int32) (p1 p2 : Int32) : Nat → Int32 := if sr_X6_in p1 1 150 = 0 then mt else if sr_X6_in p2 (-400) 600 = 0 then mt else ms
def xv56_1_X6_best (i : Nat) : Int32 := nI i
def gv59_2_X6_best (ms : Nat → Int32) (p1 : Int32) (i : Nat) (fi : Nat → Int32) : Nat → Int32 := (mtl p1.toNatClampNeg (fi, (upd ms 4 (xv56_1_X6_best i)))).1
def gv59_3_X6_best (ms : Nat → Int32) (p1 : Int32) (i : Nat) (fi : Nat → Int32) : Nat → Int32 := (mtl p1.toNatClampNeg (fi, (upd ms 4 (xv56_1_X6_best i)))).2
def j123_0_X6_best (ms : Nat → Int32) (p1 : Int32) (i : Nat) (bg : Int32) (fi : Nat → Int32) : Int32 := if (nI i) = 0 then 1 else if ((((gv59_3_X6_best ms p1 i fi) 11) - (ms 11)) - (((gv59_3_X6_best ms p1 i fi) 12) - (ms 12))) ≤ bg then 0 else 1
def j136_0_X6_best (ms : Nat → Int32) (p1 : Int32) (i : Nat) (bm : Int32) (bg : Int32) (fi : Nat → Int32) : Int32 := if (j123_0_X6_best ms p1 i bg fi) = 0 then bm else nI i
def j149_0_X6_best (ms : Nat → Int32) (p1 : Int32) (i : Nat) (bg : Int32) (fi : Nat → Int32) : Int32 := if (j123_0_X6_best ms p1 i bg fi) = 0 then bg else (((gv59_3_X6_best ms p1 i fi) 11) - (ms 11)) - (((gv59_3_X6_best ms p1 i fi) 12) - (ms 12))
abbrev po_X6_best (cI cC cL : ClassId) (m0 m1 m2 m3 m4 m5 m6 : Nat) (mf ms mt : Nat → Int32) (p1 : Int32) (p2 : Int32) (hq : mq ms) : Int32 → va_W → Prop := fun r w' => sr_X6_best mf ms p1 p2 = r ∧ [oM m0 m1 m2 m3 m4 m5 m6 (bestW mf ms p1 p2), aI cI m1 89 ms, aI cI m4 89 (bestT ms mt p1 p2)] = w'
set_option maxHeartbeats 4000000 in
set_option maxRecDepth 100000 in
theorem ct_X6_best (l : Launch) (D : va_G) (cI cC cL : ClassId) (m0 m1 m2 m3 m4 m5 m6 : Nat) (mf ms mt : Nat → Int32) (p1 : Int32) (p2 : Int32) (hq : mq ms) : ag_MI l yX6_best cX6_best 8 .int 7 149 D cI cC cL [.ref m0, .int p1, .int p2] [oM m0 m1 m2 m3 m4 m5 m6 mf, aI cI m1 89 ms, aI cI m4 89 mt] (po_X6_best cI cC cL m0 m1 m2 m3 m4 m5 m6 mf ms mt p1 p2 hq) := by
  refine ag_MI.of (plainFor_of_name (by decide)) (Nat.le_of_ble_eq_true rfl) ?_
  intro p e s m below meth c hx hb hr hlocks hml hown hmn hG hK A hN hA H locs hP hD hS ls hl
  have hl : lv_has ls 8 [(0, .ref m0), (1, .int p1), (2, .int p2)] := hl
  refine lv_iload_n hx hb dX6_best_0 rfl (lv_at hl 1 rfl) ?_
  refine lv_iconst (v := 1) hx hb dX6_best_1 (by decide) ?_
  refine lv_sipush (v := 150) hx hb dX6_best_2 (by decide) ?_
  refine ag_callSi (As := [.int p1, .int 1, .int 150]) (rest := []) hx hb hml hown hG hK hN hA hP hD hS hl (ct_X6_in l D cI cC cL p1 1 150) fX6_in k_607 ag_cut_0 rfl (Nat.le_of_ble_eq_true rfl) ⟨Nat.le_of_ble_eq_true rfl, Nat.le_of_ble_eq_true rfl⟩ ⟨Nat.zero_le _, Nat.zero_le _⟩ dX6_best_5 (fun r w1 H locs hw hP hD hS => ?_)
  obtain ⟨rfl, hw⟩ := hw
  subst hw
  have hP : va_P D vwCl [oM m0 m1 m2 m3 m4 m5 m6 mf, aI cI m1 89 ms, aI cI m4 89 mt] H := hP
  have hD : va_D A [oM m0 m1 m2 m3 m4 m5 m6 mf, aI cI m1 89 ms, aI cI m4 89 mt] := hD
  refine lv_if_eq (tgt := 20) hx hb dX6_best_8 (by decide) (fun c_8 => ?_) (fun c_8 => ?_)
  · refine lv_ldc (v := (-1000000001)) hx hb hown (hG _ k_618) dX6_best_20 ?_
    exact ag_iret [m0, m1, m4] hx hb hr rfl hlocks hP hS rfl rfl ⟨(by unfold sr_X6_best; rw [if_pos c_8]), (by show _ = _; unfold bestW bestT; rw [if_pos c_8, if_pos c_8])⟩ dX6_best_22
  · refine lv_iload_n hx hb dX6_best_11 rfl (lv_at hl 2 rfl) ?_
    refine lv_iconst (v := 0) hx hb dX6_best_12 (by decide) ?_
    refine lv_iconst (v := 1) hx hb dX6_best_13 (by decide) ?_
    refine ag_callSi (As := [.int p2, .int 0, .int 1]) (rest := []) hx hb hml hown hG hK hN hA hP hD hS hl (ct_X6_in l D cI cC cL p2 0 1) fX6_in k_607 ag_cut_0 rfl (Nat.le_of_ble_eq_true rfl) ⟨Nat.le_of_ble_eq_true rfl, Nat.le_of_ble_eq_true rfl⟩ ⟨Nat.zero_le _, Nat.zero_le _⟩ dX6_best_14 (fun r w1 H locs hw hP hD hS => ?_)
    obtain ⟨rfl, hw⟩ := hw
    subst hw
    have hP : va_P D vwCl [oM m0 m1 m2 m3 m4 m5 m6 mf, aI cI m1 89 ms, aI cI m4 89 mt] H := hP
    have hD : va_D A [oM m0 m1 m2 m3 m4 m5 m6 mf, aI cI m1 89 ms, aI cI m4 89 mt] := hD
    refine lv_if_ne (tgt := 23) hx hb dX6_best_17 (by decide) (fun c_17 => ?_) (fun c_17 => ?_)
    · refine lv_aload_n hx hb dX6_best_23 rfl (lv_at hl 0 rfl) ?_
      refine ag_getX6 (v := .ref m1) hx hb hG hown hK hP 0 0 rfl (by decide) k_536 rfl dX6_best_24 ?_
      refine lv_aload_n hx hb dX6_best_27 rfl (lv_at hl 0 rfl) ?_
      refine ag_getX6 (v := .ref m4) hx hb hG hown hK hP 0 3 rfl (by decide) k_539 rfl dX6_best_28 ?_
      refine ag_callSv (As := [.ref m1, .ref m4]) (rest := []) hx hb hml hown hG hK hN hA hP hD hS hl (ct_X6_copies l D cI cC cL m1 m4 ms mt) fX6_copies k_711 (ag_cut_1 [oM m0 m1 m2 m3 m4 m5 m6 mf] [] rfl) rfl (Nat.le_of_ble_eq_true rfl) ⟨Nat.le_of_ble_eq_true rfl, Nat.le_of_ble_eq_true rfl⟩ ⟨Nat.zero_le _, Nat.zero_le _⟩ dX6_best_31 (fun w1 H locs hw hP hD hS => ?_)
      have hw : _ = w1 := hw
      subst hw
      have hP : va_P D vwCl [oM m0 m1 m2 m3 m4 m5 m6 mf, aI cI m1 89 ms, aI cI m4 89 ms] H := hP
      have hD : va_D A [oM m0 m1 m2 m3 m4 m5 m6 mf, aI cI m1 89 ms, aI cI m4 89 ms] := hD
      refine lv_iconst (v := 0) hx hb dX6_best_34 (by decide) ?_
      refine lv_istore_n (lv' := [(3, .int 0), (0, .ref m0), (1, .int p1), (2, .int p2)]) hx hb dX6_best_35 rfl hl (by decide) rfl (fun ls hl => ?_)
      refine lv_iconst (v := 0) hx hb dX6_best_36 (by decide) ?_
      refine lv_istore (lv' := [(4, .int 0), (3, .int 0), (0, .ref m0), (1, .int p1), (2, .int p2)]) hx hb dX6_best_37 hl (by decide) rfl (fun ls hl => ?_)
      refine lv_iconst (v := 0) hx hb dX6_best_39 (by decide) ?_
      refine lv_istore (lv' := [(5, .int 0), (4, .int 0), (3, .int 0), (0, .ref m0), (1, .int p1), (2, .int p2)]) hx hb dX6_best_40 hl (by decide) rfl (fun ls hl => ?_)
      suffices L42 : ∀ (n : Nat) (i : Nat) (bm bg : Int32) (fi : Nat → Int32), (hi : i + n = 7) → (hR : mbL p1.toNatClampNeg ms n i (bm, bg, fi) = mbL p1.toNatClampNeg ms 7 0 (0, 0, mf)) → ∀ (H : Heap) (locs : List Loc) (ls : Array Slot), lv_has ls 8 [(0, .ref m0), (1, .int p1), (2, .int p2), (3, .int bm), (4, .int bg), (5, .int (nI i))] → va_P D vwCl [oM m0 m1 m2 m3 m4 m5 m6 fi, aI cI m1 89 ms, aI cI m4 89 ms] H → va_D A [oM m0 m1 m2 m3 m4 m5 m6 fi, aI cI m1 89 ms, aI cI m4 89 ms] → va_S A s.heap H locs → W p l e (ag_rm 7 149) s m ([.ref m0, .int p1, .int p2] : List Value).toArray below meth c H locs 0 0 (MQ below (va_Qi (po_X6_best cI cC cL m0 m1 m2 m3 m4 m5 m6 mf ms mt p1 p2 hq) (ag_Out D [oM m0 m1 m2 m3 m4 m5 m6 mf, aI cI m1 89 ms, aI cI m4 89 mt]) A) ([.ref m0, .int p1, .int p2] : List Value).toArray s 0 0 A) (F0 m 42 ls []) from L42 7 0 0 0 mf (by omega) rfl H locs ls (lv_sub hl [3, 4, 5, 2, 1, 0] rfl) hP hD hS
      intro n
      induction n with
      | zero =>
        intro i bm bg fi hi hR H locs ls hl hP hD hS
        refine lv_iload hx hb dX6_best_42 (lv_at hl 5 rfl) ?_
        refine lv_bipush (v := 7) hx hb dX6_best_44 (by decide) ?_
        refine lv_icmp_ge (tgt := 157) hx hb dX6_best_46 (by decide) (fun _ => ?_) (fun h0 => absurd ((nI_leI (a := 7) (by decide) (by omega)).mpr (by omega)) h0)
        refine lv_iload_n hx hb dX6_best_157 rfl (lv_at hl 2 rfl) ?_
        refine lv_if_ne (tgt := 165) hx hb dX6_best_158 (by decide) (fun c_158 => ?_) (fun c_158 => ?_)
        · refine lv_iload hx hb dX6_best_165 (lv_at hl 4 rfl) ?_
          exact ag_iret [m0, m1, m4] hx hb hr rfl hlocks hP hS rfl rfl ⟨(by unfold sr_X6_best mbX; rw [if_neg c_8, if_neg c_17, if_neg c_158, ← hR]; rfl), (by show _ = _; unfold bestW bestT mbX; rw [if_neg c_8, if_neg c_17, if_neg c_8, if_neg c_17, ← hR]; rfl)⟩ dX6_best_167
        · refine lv_iload_n hx hb dX6_best_161 rfl (lv_at hl 3 rfl) ?_
          refine lv_goto (tgt := 167) hx hb dX6_best_162 (by decide) ?_
          exact ag_iret [m0, m1, m4] hx hb hr rfl hlocks hP hS rfl rfl ⟨(by unfold sr_X6_best mbX; rw [if_neg c_8, if_neg c_17, if_pos c_158, ← hR]; rfl), (by show _ = _; unfold bestW bestT mbX; rw [if_neg c_8, if_neg c_17, if_neg c_8, if_neg c_17, ← hR]; rfl)⟩ dX6_best_167
      | succ n ih =>
        intro i bm bg fi hi hR H locs ls hl hP hD hS
        refine lv_iload hx hb dX6_best_42 (lv_at hl 5 rfl) ?_
        refine lv_bipush (v := 7) hx hb dX6_best_44 (by decide) ?_
        refine lv_icmp_ge (tgt := 157) hx hb dX6_best_46 (by decide) (fun h0 => absurd h0 (fun h => absurd ((nI_leI (a := 7) (by decide) (by omega)).mp h) (by omega))) (fun _ => ?_)
        refine lv_aload_n hx hb dX6_best_49 rfl (lv_at hl 0 rfl) ?_
        refine ag_getX6 (v := .ref m1) hx hb hG hown hK hP 0 0 rfl (by decide) k_536 rfl dX6_best_50 ?_
        refine lv_iconst (v := 4) hx hb dX6_best_53 (by decide) ?_
        refine lv_iload hx hb dX6_best_54 (lv_at hl 5 rfl) ?_
        refine ag_topn (v := xv56_1_X6_best i) rfl (fun x56_1 ex56_1 => ?_)
        refine ag_ist (k := 4) hx hb hK hP hD hS 1 rfl rfl (Nat.le_of_ble_eq_true rfl) (Nat.le_of_ble_eq_true rfl) dX6_best_56 (fun H locs hP hD hS => ?_)
        have hP : va_P D vwCl [oM m0 m1 m2 m3 m4 m5 m6 fi, aI cI m1 89 (upd ms 4 x56_1), aI cI m4 89 ms] H := hP
        have hD : va_D A [oM m0 m1 m2 m3 m4 m5 m6 fi, aI cI m1 89 (upd ms 4 x56_1), aI cI m4 89 ms] := hD
        refine lv_aload_n hx hb dX6_best_57 rfl (lv_at hl 0 rfl) ?_
        refine lv_iload_n hx hb dX6_best_58 rfl (lv_at hl 1 rfl) ?_
        refine ag_callVv (As := [.int p1]) (rest := []) hx hb hml hown hG hK hN hA hP hD hS hl (ct_X6_ticks l D cI cC cL m0 m1 m2 m3 m4 m5 m6 fi (upd ms 4 x56_1) p1 p1.toNatClampNeg (ag_pos (in_is c_8).1) (mq_upd hq (by decide))) fX6_ticks k_636 (ag_cut_1 [] [aI cI m4 89 ms] rfl) (q0 := 0) rfl rfl rfl rfl (Nat.le_of_ble_eq_true rfl) ⟨Nat.le_of_ble_eq_true rfl, Nat.le_of_ble_eq_true rfl⟩ ⟨Nat.zero_le _, Nat.zero_le _⟩ dX6_best_59 (fun w1 H locs hw hP hD hS => ?_)
        have hw : _ = w1 := hw
        generalize eg59_2 : (mtl p1.toNatClampNeg (fi, (upd ms 4 x56_1))).1 = g59_2 at hw
        replace eg59_2 : gv59_2_X6_best ms p1 i fi = g59_2 := (by rw [← eg59_2, ← ex56_1]; rfl)
        generalize eg59_3 : (mtl p1.toNatClampNeg (fi, (upd ms 4 x56_1))).2 = g59_3 at hw
        replace eg59_3 : gv59_3_X6_best ms p1 i fi = g59_3 := (by rw [← eg59_3, ← ex56_1]; rfl)
        subst hw
        have hP : va_P D vwCl [oM m0 m1 m2 m3 m4 m5 m6 g59_2, aI cI m1 89 g59_3, aI cI m4 89 ms] H := hP
        have hD : va_D A [oM m0 m1 m2 m3 m4 m5 m6 g59_2, aI cI m1 89 g59_3, aI cI m4 89 ms] := hD
        refine lv_aload_n hx hb dX6_best_62 rfl (lv_at hl 0 rfl) ?_
        refine ag_getX6 (v := .ref m1) hx hb hG hown hK hP 0 0 rfl (by decide) k_536 rfl dX6_best_63 ?_
        refine lv_bipush (v := 11) hx hb dX6_best_66 (by decide) ?_
        refine ag_ild (k := 11) (v := g59_3 11) hx hb hK hP 1 rfl rfl (Nat.le_of_ble_eq_true rfl) (Nat.le_of_ble_eq_true rfl) rfl dX6_best_68 ?_
        refine lv_aload_n hx hb dX6_best_69 rfl (lv_at hl 0 rfl) ?_
        refine ag_getX6 (v := .ref m4) hx hb hG hown hK hP 0 3 rfl (by decide) k_539 rfl dX6_best_70 ?_
        refine lv_bipush (v := 11) hx hb dX6_best_73 (by decide) ?_
        refine ag_ild (k := 11) (v := ms 11) hx hb hK hP 2 rfl rfl (Nat.le_of_ble_eq_true rfl) (Nat.le_of_ble_eq_true rfl) rfl dX6_best_75 ?_
        refine lv_isub hx hb dX6_best_76 ?_
        refine lv_aload_n hx hb dX6_best_77 rfl (lv_at hl 0 rfl) ?_
        refine ag_getX6 (v := .ref m1) hx hb hG hown hK hP 0 0 rfl (by decide) k_536 rfl dX6_best_78 ?_
        refine lv_bipush (v := 12) hx hb dX6_best_81 (by decide) ?_
        refine ag_ild (k := 12) (v := g59_3 12) hx hb hK hP 1 rfl rfl (Nat.le_of_ble_eq_true rfl) (Nat.le_of_ble_eq_true rfl) rfl dX6_best_83 ?_
        refine lv_aload_n hx hb dX6_best_84 rfl (lv_at hl 0 rfl) ?_
        refine ag_getX6 (v := .ref m4) hx hb hG hown hK hP 0 3 rfl (by decide) k_539 rfl dX6_best_85 ?_
        refine lv_bipush (v := 12) hx hb dX6_best_88 (by decide) ?_
        refine ag_ild (k := 12) (v := ms 12) hx hb hK hP 2 rfl rfl (Nat.le_of_ble_eq_true rfl) (Nat.le_of_ble_eq_true rfl) rfl dX6_best_90 ?_
        refine lv_isub hx hb dX6_best_91 ?_
        refine lv_isub hx hb dX6_best_92 ?_
        refine lv_istore (lv' := [(6, .int (((g59_3 11) - (ms 11)) - ((g59_3 12) - (ms 12)))), (0, .ref m0), (1, .int p1), (2, .int p2), (3, .int bm), (4, .int bg), (5, .int (nI i))]) hx hb dX6_best_93 hl (by decide) rfl (fun ls hl => ?_)
        refine lv_aload_n hx hb dX6_best_95 rfl (lv_at hl 1 rfl) ?_
        refine ag_getX6 (v := .ref m4) hx hb hG hown hK hP 0 3 rfl (by decide) k_539 rfl dX6_best_96 ?_
        refine lv_aload_n hx hb dX6_best_99 rfl (lv_at hl 1 rfl) ?_
        refine ag_getX6 (v := .ref m1) hx hb hG hown hK hP 0 0 rfl (by decide) k_536 rfl dX6_best_100 ?_
        refine ag_callSv (As := [.ref m4, .ref m1]) (rest := []) hx hb hml hown hG hK hN hA hP hD hS hl (ct_X6_copies l D cI cC cL m4 m1 ms g59_3) fX6_copies k_711 (ag_cut_2s 1 [oM m0 m1 m2 m3 m4 m5 m6 g59_2] [aI cI m4 89 ms] [] [aI cI m1 89 g59_3] [] rfl rfl rfl) rfl (Nat.le_of_ble_eq_true rfl) ⟨Nat.le_of_ble_eq_true rfl, Nat.le_of_ble_eq_true rfl⟩ ⟨Nat.zero_le _, Nat.zero_le _⟩ dX6_best_103 (fun w1 H locs hw hP hD hS => ?_)
        have hw : _ = w1 := hw
        subst hw
        have hP : va_P D vwCl [oM m0 m1 m2 m3 m4 m5 m6 g59_2, aI cI m1 89 ms, aI cI m4 89 ms] H := hP
        have hD : va_D A [oM m0 m1 m2 m3 m4 m5 m6 g59_2, aI cI m1 89 ms, aI cI m4 89 ms] := hD
        refine lv_iload hx hb dX6_best_106 (lv_at hl 6 rfl) ?_
        have J123 : ∀ (ls : Array Slot), lv_has ls 8 [(0, .ref m0), (1, .int p1), (2, .int p2), (3, .int bm), (4, .int bg), (5, .int (nI i)), (6, .int (((g59_3 11) - (ms 11)) - ((g59_3 12) - (ms 12))))] → W p l e (ag_rm 7 149) s m ([.ref m0, .int p1, .int p2] : List Value).toArray below meth c H locs 0 0 (MQ below (va_Qi (po_X6_best cI cC cL m0 m1 m2 m3 m4 m5 m6 mf ms mt p1 p2 hq) (ag_Out D [oM m0 m1 m2 m3 m4 m5 m6 mf, aI cI m1 89 ms, aI cI m4 89 mt]) A) ([.ref m0, .int p1, .int p2] : List Value).toArray s 0 0 A) (F0 m 123 ls [.int (j123_0_X6_best ms p1 i bg fi)]) := by
          intro ls hl
          refine lv_istore (lv' := [(7, .int (j123_0_X6_best ms p1 i bg fi)), (0, .ref m0), (1, .int p1), (2, .int p2), (3, .int bm), (4, .int bg), (5, .int (nI i)), (6, .int (((g59_3 11) - (ms 11)) - ((g59_3 12) - (ms 12))))]) hx hb dX6_best_123 hl (by decide) rfl (fun ls hl => ?_)
          refine lv_iload hx hb dX6_best_125 (lv_at hl 0 rfl) ?_
          have J136 : ∀ (ls : Array Slot), lv_has ls 8 [(0, .ref m0), (1, .int p1), (2, .int p2), (3, .int bm), (4, .int bg), (5, .int (nI i)), (6, .int (((g59_3 11) - (ms 11)) - ((g59_3 12) - (ms 12)))), (7, .int (j123_0_X6_best ms p1 i bg fi))] → W p l e (ag_rm 7 149) s m ([.ref m0, .int p1, .int p2] : List Value).toArray below meth c H locs 0 0 (MQ below (va_Qi (po_X6_best cI cC cL m0 m1 m2 m3 m4 m5 m6 mf ms mt p1 p2 hq) (ag_Out D [oM m0 m1 m2 m3 m4 m5 m6 mf, aI cI m1 89 ms, aI cI m4 89 mt]) A) ([.ref m0, .int p1, .int p2] : List Value).toArray s 0 0 A) (F0 m 136 ls [.int (j136_0_X6_best ms p1 i bm bg fi)]) := by
            intro ls hl
            refine lv_istore_n (lv' := [(3, .int (j136_0_X6_best ms p1 i bm bg fi)), (0, .ref m0), (1, .int p1), (2, .int p2), (4, .int bg), (5, .int (nI i)), (6, .int (((g59_3 11) - (ms 11)) - ((g59_3 12) - (ms 12)))), (7, .int (j123_0_X6_best ms p1 i bg fi))]) hx hb dX6_best_136 rfl hl (by decide) rfl (fun ls hl => ?_)
            refine lv_iload hx hb dX6_best_137 (lv_at hl 7 rfl) ?_
            have J149 : ∀ (ls : Array Slot), lv_has ls 8 [(0, .ref m0), (1, .int p1), (2, .int p2), (3, .int (j136_0_X6_best ms p1 i bm bg fi)), (4, .int bg), (5, .int (nI i)), (6, .int (((g59_3 11) - (ms 11)) - ((g59_3 12) - (ms 12)))), (7, .int (j123_0_X6_best ms p1 i bg fi))] → W p l e (ag_rm 7 149) s m ([.ref m0, .int p1, .int p2] : List Value).toArray below meth c H locs 0 0 (MQ below (va_Qi (po_X6_best cI cC cL m0 m1 m2 m3 m4 m5 m6 mf ms mt p1 p2 hq) (ag_Out D [oM m0 m1 m2 m3 m4 m5 m6 mf, aI cI m1 89 ms, aI cI m4 89 mt]) A) ([.ref m0, .int p1, .int p2] : List Value).toArray s 0 0 A) (F0 m 149 ls [.int (j149_0_X6_best ms p1 i bg fi)]) := by
              intro ls hl
              refine lv_istore (lv' := [(4, .int (j149_0_X6_best ms p1 i bg fi)), (0, .ref m0), (1, .int p1), (2, .int p2), (3, .int (j136_0_X6_best ms p1 i bm bg fi)), (5, .int (nI i)), (6, .int (((g59_3 11) - (ms 11)) - ((g59_3 12) - (ms 12)))), (7, .int (j123_0_X6_best ms p1 i bg fi))]) hx hb dX6_best_149 hl (by decide) rfl (fun ls hl => ?_)
              refine lv_iinc (v := nI (i + 1)) (lv' := [(5, .int (nI (i + 1))), (4, .int (j149_0_X6_best ms p1 i bg fi)), (0, .ref m0), (1, .int p1), (2, .int p2), (3, .int (j136_0_X6_best ms p1 i bm bg fi)), (6, .int (((g59_3 11) - (ms 11)) - ((g59_3 12) - (ms 12)))), (7, .int (j123_0_X6_best ms p1 i bg fi))]) hx hb dX6_best_151 hl (k := 5) rfl (nI_1 i) (by decide) rfl (fun ls hl => ?_)
              refine lv_goto (tgt := 42) hx hb dX6_best_154 (by decide) ?_
              revert hP; revert hD; revert hS; revert hl
              subst eg59_3
              subst eg59_2
              subst ex56_1
              intro hl hS hD hP
              exact ih (i + 1) (j136_0_X6_best ms p1 i bm bg fi) (j149_0_X6_best ms p1 i bg fi) (gv59_2_X6_best ms p1 i fi) (by omega) hR H locs ls (lv_sub hl [2, 3, 4, 5, 1, 0] rfl) hP hD hS
            refine lv_if_eq (tgt := 147) hx hb dX6_best_139 (by decide) (fun c_139 => ?_) (fun c_139 => ?_)
            · refine lv_iload hx hb dX6_best_147 (lv_at hl 4 rfl) ?_
              revert hP; revert hD; revert hS; revert hl
              subst eg59_3
              subst eg59_2
              subst ex56_1
              intro hl hS hD hP
              simp only [j149_0_X6_best, if_pos c_139] at J149
              exact J149 _ (lv_sub hl [1, 2, 3, 0, 4, 5, 6, 7] rfl)
            · refine lv_iload hx hb dX6_best_142 (lv_at hl 6 rfl) ?_
              refine lv_goto (tgt := 149) hx hb dX6_best_144 (by decide) ?_
              revert hP; revert hD; revert hS; revert hl
              subst eg59_3
              subst eg59_2
              subst ex56_1
              intro hl hS hD hP
              simp only [j149_0_X6_best, if_neg c_139] at J149
              exact J149 _ (lv_sub hl [1, 2, 3, 0, 4, 5, 6, 7] rfl)
          refine lv_if_eq (tgt := 135) hx hb dX6_best_127 (by decide) (fun c_127 => ?_) (fun c_127 => ?_)
          · refine lv_iload_n hx hb dX6_best_135 rfl (lv_at hl 4 rfl) ?_
            revert hP; revert hD; revert hS; revert hl
            subst eg59_3
            subst eg59_2
            subst ex56_1
            intro hl hS hD hP
            simp only [j136_0_X6_best, if_pos c_127] at J136
            exact J136 _ (lv_sub hl [1, 2, 3, 4, 5, 6, 7, 0] rfl)
          · refine lv_iload hx hb dX6_best_130 (lv_at hl 6 rfl) ?_
            refine lv_goto (tgt := 136) hx hb dX6_best_132 (by decide) ?_
            revert hP; revert hD; revert hS; revert hl
            subst eg59_3
            subst eg59_2
            subst ex56_1
            intro hl hS hD hP
            simp only [j136_0_X6_best, if_neg c_127] at J136
            exact J136 _ (lv_sub hl [1, 2, 3, 4, 5, 6, 7, 0] rfl)
        refine lv_if_eq (tgt := 118) hx hb dX6_best_108 (by decide) (fun c_108 => ?_) (fun c_108 => ?_)
        · refine lv_iconst (v := 1) hx hb dX6_best_118 (by decide) ?_
          refine lv_goto (tgt := 123) hx hb dX6_best_119 (by decide) ?_
          revert hP; revert hD; revert hS; revert hl
          subst eg59_3
          subst eg59_2
          subst ex56_1
          intro hl hS hD hP
          simp only [j123_0_X6_best, if_pos c_108] at J123
          exact J123 _ (lv_sub hl [1, 2, 3, 4, 5, 6, 0] rfl)
        · refine lv_iload hx hb dX6_best_111 (lv_at hl 0 rfl) ?_
          refine lv_iload hx hb dX6_best_113 (lv_at hl 5 rfl) ?_
          refine lv_icmp_le (tgt := 122) hx hb dX6_best_115 (by decide) (fun c_115 => ?_) (fun c_115 => ?_)
          · refine lv_iconst (v := 0) hx hb dX6_best_122 (by decide) ?_
            revert hP; revert hD; revert hS; revert hl
            subst eg59_3
            subst eg59_2
            subst ex56_1
            intro hl hS hD hP
            simp only [j123_0_X6_best, if_neg c_108, if_pos c_115] at J123
            exact J123 _ (lv_sub hl [1, 2, 3, 4, 5, 6, 0] rfl)
          · refine lv_iconst (v := 1) hx hb dX6_best_118 (by decide) ?_
            refine lv_goto (tgt := 123) hx hb dX6_best_119 (by decide) ?_
            revert hP; revert hD; revert hS; revert hl
            subst eg59_3
            subst eg59_2
            subst ex56_1
            intro hl hS hD hP
            simp only [j123_0_X6_best, if_neg c_108, if_neg c_115] at J123
            exact J123 _ (lv_sub hl [1, 2, 3, 4, 5, 6, 0] rfl)
    · refine lv_ldc (v := (-1000000001)) hx hb hown (hG _ k_618) dX6_best_20 ?_
      exact ag_iret [m0, m1, m4] hx hb hr rfl hlocks hP hS rfl rfl ⟨(by unfold sr_X6_best; rw [if_neg c_8, if_pos c_17]), (by show _ = _; unfold bestW bestT; rw [if_neg c_8, if_pos c_17, if_neg c_8, if_pos c_17])⟩ dX6_best_22
def xv60_1_X6_gatesFor (i : Nat) : Int32 := nI i
def gv63_2_X6_gatesFor (ms : Nat → Int32) (p1 : Int32) (i : Nat) (fi : Nat → Int32) : Nat → Int32 := (mtl p1.toNatClampNeg (fi, (upd ms 3 (xv60_1_X6_gatesFor i)))).1
def gv63_3_X6_gatesFor (ms : Nat → Int32) (p1 : Int32) (i : Nat) (fi : Nat → Int32) : Nat → Int32 := (mtl p1.toNatClampNeg (fi, (upd ms 3 (xv60_1_X6_gatesFor i)))).2
def j105_0_X6_gatesFor (ms : Nat → Int32) (p1 : Int32) (p2 : Int32) (i : Nat) (bg : Int32) (fi : Nat → Int32) : Int32 := if (nI i) = 0 then 1 else if bg ≤ (sr_X6_size ((sr_X6_level (gv63_3_X6_gatesFor ms p1 i fi)) - p2)) then 0 else 1
def j118_0_X6_gatesFor (ms : Nat → Int32) (p1 : Int32) (p2 : Int32) (i : Nat) (bm : Int32) (bg : Int32) (fi : Nat → Int32) : Int32 := if (j105_0_X6_gatesFor ms p1 p2 i bg fi) = 0 then bm else nI i
def j131_0_X6_gatesFor (ms : Nat → Int32) (p1 : Int32) (p2 : Int32) (i : Nat) (bg : Int32) (fi : Nat → Int32) : Int32 := if (j105_0_X6_gatesFor ms p1 p2 i bg fi) = 0 then bg else sr_X6_size ((sr_X6_level (gv63_3_X6_gatesFor ms p1 i fi)) - p2)
abbrev po_X6_gatesFor (cI cC cL : ClassId) (m0 m1 m2 m3 m4 m5 m6 : Nat) (mf ms mt : Nat → Int32) (p1 : Int32) (p2 : Int32) (hq : mq ms) : Int32 → va_W → Prop := fun r w' => sr_X6_gatesFor mf ms p1 p2 = r ∧ [oM m0 m1 m2 m3 m4 m5 m6 (gatesW mf ms p1 p2), aI cI m1 89 ms, aI cI m4 89 (gatesT ms mt p1 p2)] = w'
set_option maxHeartbeats 4000000 in
set_option maxRecDepth 100000 in
theorem ct_X6_gatesFor (l : Launch) (D : va_G) (cI cC cL : ClassId) (m0 m1 m2 m3 m4 m5 m6 : Nat) (mf ms mt : Nat → Int32) (p1 : Int32) (p2 : Int32) (hq : mq ms) : ag_MI l yX6_gatesFor cX6_gatesFor 8 .int 7 149 D cI cC cL [.ref m0, .int p1, .int p2] [oM m0 m1 m2 m3 m4 m5 m6 mf, aI cI m1 89 ms, aI cI m4 89 mt] (po_X6_gatesFor cI cC cL m0 m1 m2 m3 m4 m5 m6 mf ms mt p1 p2 hq) := by
  refine ag_MI.of (plainFor_of_name (by decide)) (Nat.le_of_ble_eq_true rfl) ?_
  intro p e s m below meth c hx hb hr hlocks hml hown hmn hG hK A hN hA H locs hP hD hS ls hl
  have hl : lv_has ls 8 [(0, .ref m0), (1, .int p1), (2, .int p2)] := hl
  refine lv_iload_n hx hb dX6_gatesFor_0 rfl (lv_at hl 1 rfl) ?_
  refine lv_iconst (v := 1) hx hb dX6_gatesFor_1 (by decide) ?_
  refine lv_sipush (v := 150) hx hb dX6_gatesFor_2 (by decide) ?_
  refine ag_callSi (As := [.int p1, .int 1, .int 150]) (rest := []) hx hb hml hown hG hK hN hA hP hD hS hl (ct_X6_in l D cI cC cL p1 1 150) fX6_in k_607 ag_cut_0 rfl (Nat.le_of_ble_eq_true rfl) ⟨Nat.le_of_ble_eq_true rfl, Nat.le_of_ble_eq_true rfl⟩ ⟨Nat.zero_le _, Nat.zero_le _⟩ dX6_gatesFor_5 (fun r w1 H locs hw hP hD hS => ?_)
  obtain ⟨rfl, hw⟩ := hw
  subst hw
  have hP : va_P D vwCl [oM m0 m1 m2 m3 m4 m5 m6 mf, aI cI m1 89 ms, aI cI m4 89 mt] H := hP
  have hD : va_D A [oM m0 m1 m2 m3 m4 m5 m6 mf, aI cI m1 89 ms, aI cI m4 89 mt] := hD
  refine lv_if_eq (tgt := 24) hx hb dX6_gatesFor_8 (by decide) (fun c_8 => ?_) (fun c_8 => ?_)
  · refine lv_ldc (v := (-1000000001)) hx hb hown (hG _ k_618) dX6_gatesFor_24 ?_
    exact ag_iret [m0, m1, m4] hx hb hr rfl hlocks hP hS rfl rfl ⟨(by unfold sr_X6_gatesFor; rw [if_pos c_8]), (by show _ = _; unfold gatesW gatesT; rw [if_pos c_8, if_pos c_8])⟩ dX6_gatesFor_26
  · refine lv_iload_n hx hb dX6_gatesFor_11 rfl (lv_at hl 2 rfl) ?_
    refine lv_sipush (v := (-400)) hx hb dX6_gatesFor_12 (by decide) ?_
    refine lv_sipush (v := 600) hx hb dX6_gatesFor_15 (by decide) ?_
    refine ag_callSi (As := [.int p2, .int (-400), .int 600]) (rest := []) hx hb hml hown hG hK hN hA hP hD hS hl (ct_X6_in l D cI cC cL p2 (-400) 600) fX6_in k_607 ag_cut_0 rfl (Nat.le_of_ble_eq_true rfl) ⟨Nat.le_of_ble_eq_true rfl, Nat.le_of_ble_eq_true rfl⟩ ⟨Nat.zero_le _, Nat.zero_le _⟩ dX6_gatesFor_18 (fun r w1 H locs hw hP hD hS => ?_)
    obtain ⟨rfl, hw⟩ := hw
    subst hw
    have hP : va_P D vwCl [oM m0 m1 m2 m3 m4 m5 m6 mf, aI cI m1 89 ms, aI cI m4 89 mt] H := hP
    have hD : va_D A [oM m0 m1 m2 m3 m4 m5 m6 mf, aI cI m1 89 ms, aI cI m4 89 mt] := hD
    refine lv_if_ne (tgt := 27) hx hb dX6_gatesFor_21 (by decide) (fun c_21 => ?_) (fun c_21 => ?_)
    · refine lv_aload_n hx hb dX6_gatesFor_27 rfl (lv_at hl 0 rfl) ?_
      refine ag_getX6 (v := .ref m1) hx hb hG hown hK hP 0 0 rfl (by decide) k_536 rfl dX6_gatesFor_28 ?_
      refine lv_aload_n hx hb dX6_gatesFor_31 rfl (lv_at hl 0 rfl) ?_
      refine ag_getX6 (v := .ref m4) hx hb hG hown hK hP 0 3 rfl (by decide) k_539 rfl dX6_gatesFor_32 ?_
      refine ag_callSv (As := [.ref m1, .ref m4]) (rest := []) hx hb hml hown hG hK hN hA hP hD hS hl (ct_X6_copies l D cI cC cL m1 m4 ms mt) fX6_copies k_711 (ag_cut_1 [oM m0 m1 m2 m3 m4 m5 m6 mf] [] rfl) rfl (Nat.le_of_ble_eq_true rfl) ⟨Nat.le_of_ble_eq_true rfl, Nat.le_of_ble_eq_true rfl⟩ ⟨Nat.zero_le _, Nat.zero_le _⟩ dX6_gatesFor_35 (fun w1 H locs hw hP hD hS => ?_)
      have hw : _ = w1 := hw
      subst hw
      have hP : va_P D vwCl [oM m0 m1 m2 m3 m4 m5 m6 mf, aI cI m1 89 ms, aI cI m4 89 ms] H := hP
      have hD : va_D A [oM m0 m1 m2 m3 m4 m5 m6 mf, aI cI m1 89 ms, aI cI m4 89 ms] := hD
      refine lv_iconst (v := 0) hx hb dX6_gatesFor_38 (by decide) ?_
      refine lv_istore_n (lv' := [(3, .int 0), (0, .ref m0), (1, .int p1), (2, .int p2)]) hx hb dX6_gatesFor_39 rfl hl (by decide) rfl (fun ls hl => ?_)
      refine lv_iconst (v := 0) hx hb dX6_gatesFor_40 (by decide) ?_
      refine lv_istore (lv' := [(4, .int 0), (3, .int 0), (0, .ref m0), (1, .int p1), (2, .int p2)]) hx hb dX6_gatesFor_41 hl (by decide) rfl (fun ls hl => ?_)
      refine lv_iconst (v := 0) hx hb dX6_gatesFor_43 (by decide) ?_
      refine lv_istore (lv' := [(5, .int 0), (4, .int 0), (3, .int 0), (0, .ref m0), (1, .int p1), (2, .int p2)]) hx hb dX6_gatesFor_44 hl (by decide) rfl (fun ls hl => ?_)
      suffices L46 : ∀ (n : Nat) (i : Nat) (bm bg : Int32) (fi : Nat → Int32), (hi : i + n = 9) → (hR : mgL p1.toNatClampNeg ms p2 n i (bm, bg, fi) = mgL p1.toNatClampNeg ms p2 9 0 (0, 0, mf)) → ∀ (H : Heap) (locs : List Loc) (ls : Array Slot), lv_has ls 8 [(0, .ref m0), (1, .int p1), (2, .int p2), (3, .int bm), (4, .int bg), (5, .int (nI i))] → va_P D vwCl [oM m0 m1 m2 m3 m4 m5 m6 fi, aI cI m1 89 ms, aI cI m4 89 ms] H → va_D A [oM m0 m1 m2 m3 m4 m5 m6 fi, aI cI m1 89 ms, aI cI m4 89 ms] → va_S A s.heap H locs → W p l e (ag_rm 7 149) s m ([.ref m0, .int p1, .int p2] : List Value).toArray below meth c H locs 0 0 (MQ below (va_Qi (po_X6_gatesFor cI cC cL m0 m1 m2 m3 m4 m5 m6 mf ms mt p1 p2 hq) (ag_Out D [oM m0 m1 m2 m3 m4 m5 m6 mf, aI cI m1 89 ms, aI cI m4 89 mt]) A) ([.ref m0, .int p1, .int p2] : List Value).toArray s 0 0 A) (F0 m 46 ls []) from L46 9 0 0 0 mf (by omega) rfl H locs ls (lv_sub hl [3, 4, 5, 2, 1, 0] rfl) hP hD hS
      intro n
      induction n with
      | zero =>
        intro i bm bg fi hi hR H locs ls hl hP hD hS
        refine lv_iload hx hb dX6_gatesFor_46 (lv_at hl 5 rfl) ?_
        refine lv_bipush (v := 9) hx hb dX6_gatesFor_48 (by decide) ?_
        refine lv_icmp_ge (tgt := 139) hx hb dX6_gatesFor_50 (by decide) (fun _ => ?_) (fun h0 => absurd ((nI_leI (a := 9) (by decide) (by omega)).mpr (by omega)) h0)
        refine lv_iload_n hx hb dX6_gatesFor_139 rfl (lv_at hl 3 rfl) ?_
        exact ag_iret [m0, m1, m4] hx hb hr rfl hlocks hP hS rfl rfl ⟨(by unfold sr_X6_gatesFor mgX; rw [if_neg c_8, if_neg c_21, ← hR]; rfl), (by show _ = _; unfold gatesW gatesT mgX; rw [if_neg c_8, if_neg c_21, if_neg c_8, if_neg c_21, ← hR]; rfl)⟩ dX6_gatesFor_140
      | succ n ih =>
        intro i bm bg fi hi hR H locs ls hl hP hD hS
        refine lv_iload hx hb dX6_gatesFor_46 (lv_at hl 5 rfl) ?_
        refine lv_bipush (v := 9) hx hb dX6_gatesFor_48 (by decide) ?_
        refine lv_icmp_ge (tgt := 139) hx hb dX6_gatesFor_50 (by decide) (fun h0 => absurd h0 (fun h => absurd ((nI_leI (a := 9) (by decide) (by omega)).mp h) (by omega))) (fun _ => ?_)
        refine lv_aload_n hx hb dX6_gatesFor_53 rfl (lv_at hl 0 rfl) ?_
        refine ag_getX6 (v := .ref m1) hx hb hG hown hK hP 0 0 rfl (by decide) k_536 rfl dX6_gatesFor_54 ?_
        refine lv_iconst (v := 3) hx hb dX6_gatesFor_57 (by decide) ?_
        refine lv_iload hx hb dX6_gatesFor_58 (lv_at hl 5 rfl) ?_
        refine ag_topn (v := xv60_1_X6_gatesFor i) rfl (fun x60_1 ex60_1 => ?_)
        refine ag_ist (k := 3) hx hb hK hP hD hS 1 rfl rfl (Nat.le_of_ble_eq_true rfl) (Nat.le_of_ble_eq_true rfl) dX6_gatesFor_60 (fun H locs hP hD hS => ?_)
        have hP : va_P D vwCl [oM m0 m1 m2 m3 m4 m5 m6 fi, aI cI m1 89 (upd ms 3 x60_1), aI cI m4 89 ms] H := hP
        have hD : va_D A [oM m0 m1 m2 m3 m4 m5 m6 fi, aI cI m1 89 (upd ms 3 x60_1), aI cI m4 89 ms] := hD
        refine lv_aload_n hx hb dX6_gatesFor_61 rfl (lv_at hl 0 rfl) ?_
        refine lv_iload_n hx hb dX6_gatesFor_62 rfl (lv_at hl 1 rfl) ?_
        refine ag_callVv (As := [.int p1]) (rest := []) hx hb hml hown hG hK hN hA hP hD hS hl (ct_X6_ticks l D cI cC cL m0 m1 m2 m3 m4 m5 m6 fi (upd ms 3 x60_1) p1 p1.toNatClampNeg (ag_pos (in_is c_8).1) (mq_upd hq (by decide))) fX6_ticks k_636 (ag_cut_1 [] [aI cI m4 89 ms] rfl) (q0 := 0) rfl rfl rfl rfl (Nat.le_of_ble_eq_true rfl) ⟨Nat.le_of_ble_eq_true rfl, Nat.le_of_ble_eq_true rfl⟩ ⟨Nat.zero_le _, Nat.zero_le _⟩ dX6_gatesFor_63 (fun w1 H locs hw hP hD hS => ?_)
        have hw : _ = w1 := hw
        generalize eg63_2 : (mtl p1.toNatClampNeg (fi, (upd ms 3 x60_1))).1 = g63_2 at hw
        replace eg63_2 : gv63_2_X6_gatesFor ms p1 i fi = g63_2 := (by rw [← eg63_2, ← ex60_1]; rfl)
        generalize eg63_3 : (mtl p1.toNatClampNeg (fi, (upd ms 3 x60_1))).2 = g63_3 at hw
        replace eg63_3 : gv63_3_X6_gatesFor ms p1 i fi = g63_3 := (by rw [← eg63_3, ← ex60_1]; rfl)
        subst hw
        have hP : va_P D vwCl [oM m0 m1 m2 m3 m4 m5 m6 g63_2, aI cI m1 89 g63_3, aI cI m4 89 ms] H := hP
        have hD : va_D A [oM m0 m1 m2 m3 m4 m5 m6 g63_2, aI cI m1 89 g63_3, aI cI m4 89 ms] := hD
        refine lv_aload_n hx hb dX6_gatesFor_66 rfl (lv_at hl 0 rfl) ?_
        refine ag_callVi (As := []) (rest := []) hx hb hml hown hG hK hN hA hP hD hS hl (ct_X6_level l D cI cC cL m0 m1 m2 m3 m4 m5 m6 g63_2 g63_3) fX6_level k_661 (ag_cut_1 [] [aI cI m4 89 ms] rfl) (q0 := 0) rfl rfl rfl rfl (Nat.le_of_ble_eq_true rfl) ⟨Nat.le_of_ble_eq_true rfl, Nat.le_of_ble_eq_true rfl⟩ ⟨Nat.zero_le _, Nat.zero_le _⟩ dX6_gatesFor_67 (fun r w1 H locs hw hP hD hS => ?_)
        obtain ⟨rfl, hw⟩ := hw
        subst hw
        have hP : va_P D vwCl [oM m0 m1 m2 m3 m4 m5 m6 g63_2, aI cI m1 89 g63_3, aI cI m4 89 ms] H := hP
        have hD : va_D A [oM m0 m1 m2 m3 m4 m5 m6 g63_2, aI cI m1 89 g63_3, aI cI m4 89 ms] := hD
        refine lv_iload_n hx hb dX6_gatesFor_70 rfl (lv_at hl 2 rfl) ?_
        refine lv_isub hx hb dX6_gatesFor_71 ?_
        refine ag_callSi (As := [.int ((sr_X6_level g63_3) - p2)]) (rest := []) hx hb hml hown hG hK hN hA hP hD hS hl (ct_X6_size l D cI cC cL ((sr_X6_level g63_3) - p2)) fX6_size k_658 ag_cut_0 rfl (Nat.le_of_ble_eq_true rfl) ⟨Nat.le_of_ble_eq_true rfl, Nat.le_of_ble_eq_true rfl⟩ ⟨Nat.zero_le _, Nat.zero_le _⟩ dX6_gatesFor_72 (fun r w1 H locs hw hP hD hS => ?_)
        obtain ⟨rfl, hw⟩ := hw
        subst hw
        have hP : va_P D vwCl [oM m0 m1 m2 m3 m4 m5 m6 g63_2, aI cI m1 89 g63_3, aI cI m4 89 ms] H := hP
        have hD : va_D A [oM m0 m1 m2 m3 m4 m5 m6 g63_2, aI cI m1 89 g63_3, aI cI m4 89 ms] := hD
        refine lv_istore (lv' := [(6, .int (sr_X6_size ((sr_X6_level g63_3) - p2))), (0, .ref m0), (1, .int p1), (2, .int p2), (3, .int bm), (4, .int bg), (5, .int (nI i))]) hx hb dX6_gatesFor_75 hl (by decide) rfl (fun ls hl => ?_)
        refine lv_aload_n hx hb dX6_gatesFor_77 rfl (lv_at hl 1 rfl) ?_
        refine ag_getX6 (v := .ref m4) hx hb hG hown hK hP 0 3 rfl (by decide) k_539 rfl dX6_gatesFor_78 ?_
        refine lv_aload_n hx hb dX6_gatesFor_81 rfl (lv_at hl 1 rfl) ?_
        refine ag_getX6 (v := .ref m1) hx hb hG hown hK hP 0 0 rfl (by decide) k_536 rfl dX6_gatesFor_82 ?_
        refine ag_callSv (As := [.ref m4, .ref m1]) (rest := []) hx hb hml hown hG hK hN hA hP hD hS hl (ct_X6_copies l D cI cC cL m4 m1 ms g63_3) fX6_copies k_711 (ag_cut_2s 1 [oM m0 m1 m2 m3 m4 m5 m6 g63_2] [aI cI m4 89 ms] [] [aI cI m1 89 g63_3] [] rfl rfl rfl) rfl (Nat.le_of_ble_eq_true rfl) ⟨Nat.le_of_ble_eq_true rfl, Nat.le_of_ble_eq_true rfl⟩ ⟨Nat.zero_le _, Nat.zero_le _⟩ dX6_gatesFor_85 (fun w1 H locs hw hP hD hS => ?_)
        have hw : _ = w1 := hw
        subst hw
        have hP : va_P D vwCl [oM m0 m1 m2 m3 m4 m5 m6 g63_2, aI cI m1 89 ms, aI cI m4 89 ms] H := hP
        have hD : va_D A [oM m0 m1 m2 m3 m4 m5 m6 g63_2, aI cI m1 89 ms, aI cI m4 89 ms] := hD
        refine lv_iload hx hb dX6_gatesFor_88 (lv_at hl 6 rfl) ?_
        have J105 : ∀ (ls : Array Slot), lv_has ls 8 [(0, .ref m0), (1, .int p1), (2, .int p2), (3, .int bm), (4, .int bg), (5, .int (nI i)), (6, .int (sr_X6_size ((sr_X6_level g63_3) - p2)))] → W p l e (ag_rm 7 149) s m ([.ref m0, .int p1, .int p2] : List Value).toArray below meth c H locs 0 0 (MQ below (va_Qi (po_X6_gatesFor cI cC cL m0 m1 m2 m3 m4 m5 m6 mf ms mt p1 p2 hq) (ag_Out D [oM m0 m1 m2 m3 m4 m5 m6 mf, aI cI m1 89 ms, aI cI m4 89 mt]) A) ([.ref m0, .int p1, .int p2] : List Value).toArray s 0 0 A) (F0 m 105 ls [.int (j105_0_X6_gatesFor ms p1 p2 i bg fi)]) := by
          intro ls hl
          refine lv_istore (lv' := [(7, .int (j105_0_X6_gatesFor ms p1 p2 i bg fi)), (0, .ref m0), (1, .int p1), (2, .int p2), (3, .int bm), (4, .int bg), (5, .int (nI i)), (6, .int (sr_X6_size ((sr_X6_level g63_3) - p2)))]) hx hb dX6_gatesFor_105 hl (by decide) rfl (fun ls hl => ?_)
          refine lv_iload hx hb dX6_gatesFor_107 (lv_at hl 0 rfl) ?_
          have J118 : ∀ (ls : Array Slot), lv_has ls 8 [(0, .ref m0), (1, .int p1), (2, .int p2), (3, .int bm), (4, .int bg), (5, .int (nI i)), (6, .int (sr_X6_size ((sr_X6_level g63_3) - p2))), (7, .int (j105_0_X6_gatesFor ms p1 p2 i bg fi))] → W p l e (ag_rm 7 149) s m ([.ref m0, .int p1, .int p2] : List Value).toArray below meth c H locs 0 0 (MQ below (va_Qi (po_X6_gatesFor cI cC cL m0 m1 m2 m3 m4 m5 m6 mf ms mt p1 p2 hq) (ag_Out D [oM m0 m1 m2 m3 m4 m5 m6 mf, aI cI m1 89 ms, aI cI m4 89 mt]) A) ([.ref m0, .int p1, .int p2] : List Value).toArray s 0 0 A) (F0 m 118 ls [.int (j118_0_X6_gatesFor ms p1 p2 i bm bg fi)]) := by
            intro ls hl
            refine lv_istore_n (lv' := [(3, .int (j118_0_X6_gatesFor ms p1 p2 i bm bg fi)), (0, .ref m0), (1, .int p1), (2, .int p2), (4, .int bg), (5, .int (nI i)), (6, .int (sr_X6_size ((sr_X6_level g63_3) - p2))), (7, .int (j105_0_X6_gatesFor ms p1 p2 i bg fi))]) hx hb dX6_gatesFor_118 rfl hl (by decide) rfl (fun ls hl => ?_)
            refine lv_iload hx hb dX6_gatesFor_119 (lv_at hl 7 rfl) ?_
            have J131 : ∀ (ls : Array Slot), lv_has ls 8 [(0, .ref m0), (1, .int p1), (2, .int p2), (3, .int (j118_0_X6_gatesFor ms p1 p2 i bm bg fi)), (4, .int bg), (5, .int (nI i)), (6, .int (sr_X6_size ((sr_X6_level g63_3) - p2))), (7, .int (j105_0_X6_gatesFor ms p1 p2 i bg fi))] → W p l e (ag_rm 7 149) s m ([.ref m0, .int p1, .int p2] : List Value).toArray below meth c H locs 0 0 (MQ below (va_Qi (po_X6_gatesFor cI cC cL m0 m1 m2 m3 m4 m5 m6 mf ms mt p1 p2 hq) (ag_Out D [oM m0 m1 m2 m3 m4 m5 m6 mf, aI cI m1 89 ms, aI cI m4 89 mt]) A) ([.ref m0, .int p1, .int p2] : List Value).toArray s 0 0 A) (F0 m 131 ls [.int (j131_0_X6_gatesFor ms p1 p2 i bg fi)]) := by
              intro ls hl
              refine lv_istore (lv' := [(4, .int (j131_0_X6_gatesFor ms p1 p2 i bg fi)), (0, .ref m0), (1, .int p1), (2, .int p2), (3, .int (j118_0_X6_gatesFor ms p1 p2 i bm bg fi)), (5, .int (nI i)), (6, .int (sr_X6_size ((sr_X6_level g63_3) - p2))), (7, .int (j105_0_X6_gatesFor ms p1 p2 i bg fi))]) hx hb dX6_gatesFor_131 hl (by decide) rfl (fun ls hl => ?_)
              refine lv_iinc (v := nI (i + 1)) (lv' := [(5, .int (nI (i + 1))), (4, .int (j131_0_X6_gatesFor ms p1 p2 i bg fi)), (0, .ref m0), (1, .int p1), (2, .int p2), (3, .int (j118_0_X6_gatesFor ms p1 p2 i bm bg fi)), (6, .int (sr_X6_size ((sr_X6_level g63_3) - p2))), (7, .int (j105_0_X6_gatesFor ms p1 p2 i bg fi))]) hx hb dX6_gatesFor_133 hl (k := 5) rfl (nI_1 i) (by decide) rfl (fun ls hl => ?_)
              refine lv_goto (tgt := 46) hx hb dX6_gatesFor_136 (by decide) ?_
              revert hP; revert hD; revert hS; revert hl
              subst eg63_3
              subst eg63_2
              subst ex60_1
              intro hl hS hD hP
              exact ih (i + 1) (j118_0_X6_gatesFor ms p1 p2 i bm bg fi) (j131_0_X6_gatesFor ms p1 p2 i bg fi) (gv63_2_X6_gatesFor ms p1 i fi) (by omega) hR H locs ls (lv_sub hl [2, 3, 4, 5, 1, 0] rfl) hP hD hS
            refine lv_if_eq (tgt := 129) hx hb dX6_gatesFor_121 (by decide) (fun c_121 => ?_) (fun c_121 => ?_)
            · refine lv_iload hx hb dX6_gatesFor_129 (lv_at hl 4 rfl) ?_
              revert hP; revert hD; revert hS; revert hl
              subst eg63_3
              subst eg63_2
              subst ex60_1
              intro hl hS hD hP
              simp only [j131_0_X6_gatesFor, if_pos c_121] at J131
              exact J131 _ (lv_sub hl [1, 2, 3, 0, 4, 5, 6, 7] rfl)
            · refine lv_iload hx hb dX6_gatesFor_124 (lv_at hl 6 rfl) ?_
              refine lv_goto (tgt := 131) hx hb dX6_gatesFor_126 (by decide) ?_
              revert hP; revert hD; revert hS; revert hl
              subst eg63_3
              subst eg63_2
              subst ex60_1
              intro hl hS hD hP
              simp only [j131_0_X6_gatesFor, if_neg c_121] at J131
              exact J131 _ (lv_sub hl [1, 2, 3, 0, 4, 5, 6, 7] rfl)
          refine lv_if_eq (tgt := 117) hx hb dX6_gatesFor_109 (by decide) (fun c_109 => ?_) (fun c_109 => ?_)
          · refine lv_iload_n hx hb dX6_gatesFor_117 rfl (lv_at hl 4 rfl) ?_
            revert hP; revert hD; revert hS; revert hl
            subst eg63_3
            subst eg63_2
            subst ex60_1
            intro hl hS hD hP
            simp only [j118_0_X6_gatesFor, if_pos c_109] at J118
            exact J118 _ (lv_sub hl [1, 2, 3, 4, 5, 6, 7, 0] rfl)
          · refine lv_iload hx hb dX6_gatesFor_112 (lv_at hl 6 rfl) ?_
            refine lv_goto (tgt := 118) hx hb dX6_gatesFor_114 (by decide) ?_
            revert hP; revert hD; revert hS; revert hl
            subst eg63_3
            subst eg63_2
            subst ex60_1
            intro hl hS hD hP
            simp only [j118_0_X6_gatesFor, if_neg c_109] at J118
            exact J118 _ (lv_sub hl [1, 2, 3, 4, 5, 6, 7, 0] rfl)
        refine lv_if_eq (tgt := 100) hx hb dX6_gatesFor_90 (by decide) (fun c_90 => ?_) (fun c_90 => ?_)
        · refine lv_iconst (v := 1) hx hb dX6_gatesFor_100 (by decide) ?_
          refine lv_goto (tgt := 105) hx hb dX6_gatesFor_101 (by decide) ?_
          revert hP; revert hD; revert hS; revert hl
          subst eg63_3
          subst eg63_2
          subst ex60_1
          intro hl hS hD hP
          simp only [j105_0_X6_gatesFor, if_pos c_90] at J105
          exact J105 _ (lv_sub hl [1, 2, 3, 4, 5, 6, 0] rfl)
        · refine lv_iload hx hb dX6_gatesFor_93 (lv_at hl 0 rfl) ?_
          refine lv_iload hx hb dX6_gatesFor_95 (lv_at hl 5 rfl) ?_
          refine lv_icmp_ge (tgt := 104) hx hb dX6_gatesFor_97 (by decide) (fun c_97 => ?_) (fun c_97 => ?_)
          · refine lv_iconst (v := 0) hx hb dX6_gatesFor_104 (by decide) ?_
            revert hP; revert hD; revert hS; revert hl
            subst eg63_3
            subst eg63_2
            subst ex60_1
            intro hl hS hD hP
            simp only [j105_0_X6_gatesFor, if_neg c_90, if_pos c_97] at J105
            exact J105 _ (lv_sub hl [1, 2, 3, 4, 5, 6, 0] rfl)
          · refine lv_iconst (v := 1) hx hb dX6_gatesFor_100 (by decide) ?_
            refine lv_goto (tgt := 105) hx hb dX6_gatesFor_101 (by decide) ?_
            revert hP; revert hD; revert hS; revert hl
            subst eg63_3
            subst eg63_2
            subst ex60_1
            intro hl hS hD hP
            simp only [j105_0_X6_gatesFor, if_neg c_90, if_neg c_97] at J105
            exact J105 _ (lv_sub hl [1, 2, 3, 4, 5, 6, 0] rfl)
    · refine lv_ldc (v := (-1000000001)) hx hb hown (hG _ k_618) dX6_gatesFor_24 ?_
      exact ag_iret [m0, m1, m4] hx hb hr rfl hlocks hP hS rfl rfl ⟨(by unfold sr_X6_gatesFor; rw [if_neg c_8, if_pos c_21]), (by show _ = _; unfold gatesW gatesT; rw [if_neg c_8, if_pos c_21, if_neg c_8, if_pos c_21])⟩ dX6_gatesFor_26
