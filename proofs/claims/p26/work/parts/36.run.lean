/-! the law's run -/
abbrev po_L_run (cI cC cL : ClassId) (ag ar ad : Nat) (ug ur ud : Nat → Int32) (p1 : Int32) (T : Nat) (N : Nat) (f : Nat → Int32) (se : Nat → Int32) (to : Nat → Int32) (re : Nat → Int32) (kf : Nat → Int32) (hp : p1 = nI N) (hN2 : T + N < 20000) (hX : PX T se (f, to, re, kf) ug ur ud) : va_W → Prop := fun w' => ∃ gi ri di : Nat → Int32, [aI cI ag 18 gi, aI cI ar 60 ri, aI cI ad 10 di] = w' ∧ PX (T + N) se (lp se N (f, to, re, kf)) gi ri di
set_option maxHeartbeats 4000000 in
set_option maxRecDepth 100000 in
theorem ct_L_run (l : Launch) (D : va_G) (cI cC cL : ClassId) (ag ar ad : Nat) (ug ur ud : Nat → Int32) (p1 : Int32) (T : Nat) (N : Nat) (f : Nat → Int32) (se : Nat → Int32) (to : Nat → Int32) (re : Nat → Int32) (kf : Nat → Int32) (hp : p1 = nI N) (hN2 : T + N < 20000) (hX : PX T se (f, to, re, kf) ug ur ud) : ag_MVn l yL_run cL_run 9 2 48 1 7 D cI cC cL [.ref ag, .ref ar, .ref ad, .int p1] [aI cI ag 18 ug, aI cI ar 60 ur, aI cI ad 10 ud] (po_L_run cI cC cL ag ar ad ug ur ud p1 T N f se to re kf hp hN2 hX) := by
  refine ag_MVn.of (plainFor_of_name (by decide)) (Nat.le_of_ble_eq_true rfl) ?_
  intro p e s m below meth c hx hb hr hlocks hml hown hmn hG hK A hN hA H locs hP hD hS ls hl
  have hl : lv_has ls 9 [(0, .ref ag), (1, .ref ar), (2, .ref ad), (3, .int p1)] := hl
  refine lv_bipush (v := 7) hx hb dL_run_0 (by decide) ?_
  refine ag_newaI (N := 7) hx hb hG hK hP hD hS hA rfl (by decide) (Nat.le_of_ble_eq_true rfl) (Nat.le_of_ble_eq_true rfl) dL_run_2 (fun q2 H hP hD hS => ?_)
  have hP : va_P D vwCl [aI cI ag 18 ug, aI cI ar 60 ur, aI cI ad 10 ud, aI cI q2 7 (fun _ => 0)] H := hP
  have hD : va_D A [aI cI ag 18 ug, aI cI ar 60 ur, aI cI ad 10 ud, aI cI q2 7 (fun _ => 0)] := hD
  refine lv_astore (lv' := [(4, .ref q2), (0, .ref ag), (1, .ref ar), (2, .ref ad), (3, .int p1)]) hx hb dL_run_4 hl (by decide) rfl (fun ls hl => ?_)
  refine lv_iconst (v := 0) hx hb dL_run_6 (by decide) ?_
  refine lv_istore (lv' := [(5, .int 0), (4, .ref q2), (0, .ref ag), (1, .ref ar), (2, .ref ad), (3, .int p1)]) hx hb dL_run_7 hl (by decide) rfl (fun ls hl => ?_)
  suffices L9 : ∀ (n : Nat) (t i : Nat) (x : ltu) (gi ri di wi : Nat → Int32), (hi : i + n = N) → (ht : t + n = T + N) → (hR : PX t se x gi ri di) → (hE : lp se n x = lp se N (f, to, re, kf)) → ∀ (H : Heap) (locs : List Loc) (ls : Array Slot), lv_has ls 9 [(0, .ref ag), (1, .ref ar), (2, .ref ad), (3, .int p1), (4, .ref q2), (5, .int (nI i))] → va_P D vwCl [aI cI ag 18 gi, aI cI ar 60 ri, aI cI ad 10 di, aI cI q2 7 wi] H → va_D A [aI cI ag 18 gi, aI cI ar 60 ri, aI cI ad 10 di, aI cI q2 7 wi] → va_S A s.heap H locs → W p l e (ag_rn 2 48 1 7) s m ([.ref ag, .ref ar, .ref ad, .int p1] : List Value).toArray below meth c H locs 1 7 (MQ below (va_Qv (po_L_run cI cC cL ag ar ad ug ur ud p1 T N f se to re kf hp hN2 hX) (ag_Out D [aI cI ag 18 ug, aI cI ar 60 ur, aI cI ad 10 ud]) A) ([.ref ag, .ref ar, .ref ad, .int p1] : List Value).toArray s 1 7 A) (F0 m 9 ls []) from L9 N T 0 (f, to, re, kf) ug ur ud (fun _ => 0) (by omega) (by omega) hX rfl H locs ls (lv_sub hl [2, 3, 4, 5, 1, 0] rfl) hP hD hS
  intro n
  induction n with
  | zero =>
    intro t i x gi ri di wi hi ht hR hE H locs ls hl hP hD hS
    refine lv_iload hx hb dL_run_9 (lv_at hl 5 rfl) ?_
    refine lv_iload_n hx hb dL_run_11 rfl (lv_at hl 3 rfl) ?_
    refine lv_icmp_ge (tgt := 375) hx hb dL_run_12 (by decide) (fun _ => ?_) (fun h0 => absurd (by rw [hp]; exact nI_le (by omega) (by omega)) h0)
    have e0 : i = N := by omega
    have e1 : t = T + N := by omega
    subst e1
    have hE : x = lp se N (f, to, re, kf) := hE
    rw [hE] at hR
    have hP : va_P D vwCl [aI cI ag 18 gi, aI cI ar 60 ri, aI cI ad 10 di] H := hP.sub [0, 1, 2] rfl
    exact ag_vretn [ag, ar, ad] hx hb hr hlocks hP hS rfl rfl ⟨gi, ri, di, rfl, hR⟩ dL_run_375
  | succ n ih =>
    intro t i x gi ri di wi hi ht hR hE H locs ls hl hP hD hS
    refine lv_iload hx hb dL_run_9 (lv_at hl 5 rfl) ?_
    refine lv_iload_n hx hb dL_run_11 rfl (lv_at hl 3 rfl) ?_
    refine lv_icmp_ge (tgt := 375) hx hb dL_run_12 (by decide) (fun h0 => absurd h0 (by rw [hp]; exact nI_ge (by omega) (by omega))) (fun _ => ?_)
    refine lv_aload_n hx hb dL_run_15 rfl (lv_at hl 0 rfl) ?_
    refine lv_aload hx hb dL_run_16 (lv_at hl 4 rfl) ?_
    refine ag_callSv (As := [.ref ag, .ref q2]) (rest := []) hx hb hml hown hG hK hN hA hP hD hS hl (ct_L_weigh l D cI cC cL ag q2 gi wi) fL_weigh k_384 (ag_cut_2 1 [] [aI cI ag 18 gi] [aI cI ar 60 ri, aI cI ad 10 di] [aI cI q2 7 wi] [] rfl rfl rfl) rfl (Nat.le_of_ble_eq_true rfl) ⟨Nat.le_of_ble_eq_true rfl, Nat.le_of_ble_eq_true rfl⟩ ⟨Nat.le_of_ble_eq_true rfl, Nat.le_of_ble_eq_true rfl⟩ dL_run_18 (fun w1 H locs hw hP hD hS => ?_)
    have hw : _ = w1 := hw
    generalize eg18_1 : sw1_L_weigh gi wi = g18_1 at hw
    replace eg18_1 : gv18_1_L_run gi wi = g18_1 := (by rw [← eg18_1]; rfl)
    subst hw
    have hP : va_P D vwCl [aI cI ag 18 gi, aI cI ar 60 ri, aI cI ad 10 di, aI cI q2 7 g18_1] H := hP
    have hD : va_D A [aI cI ag 18 gi, aI cI ar 60 ri, aI cI ad 10 di, aI cI q2 7 g18_1] := hD
    refine lv_aload_n hx hb dL_run_21 rfl (lv_at hl 0 rfl) ?_
    refine lv_iconst (v := 0) hx hb dL_run_22 (by decide) ?_
    refine ag_ild (k := 0) (v := gi 0) hx hb hK hP 0 rfl rfl (Nat.le_of_ble_eq_true rfl) (Nat.le_of_ble_eq_true rfl) rfl dL_run_23 ?_
    refine lv_sipush (v := 144) hx hb dL_run_24 (by decide) ?_
    refine lv_idiv hx hb dL_run_27 (by decide) ?_
    refine ag_tope (nI (t / 144)) (tdiv (PX_0 hR) (by omega)) ?_
    refine lv_istore (lv' := [(6, .int (nI (t / 144))), (0, .ref ag), (1, .ref ar), (2, .ref ad), (3, .int p1), (4, .ref q2), (5, .int (nI i))]) hx hb dL_run_28 hl (by decide) rfl (fun ls hl => ?_)
    refine lv_iload hx hb dL_run_30 (lv_at hl 0 rfl) ?_
    refine lv_bipush (v := 10) hx hb dL_run_32 (by decide) ?_
    refine lv_irem hx hb dL_run_34 (by decide) ?_
    refine ag_tope (nI (t / 144 % 10)) (trem (by omega)) ?_
    refine lv_bipush (v := 6) hx hb dL_run_35 (by decide) ?_
    refine lv_imul hx hb dL_run_37 ?_
    refine ag_tope (nI (t / 144 % 10 * 6)) (tmul _) ?_
    refine lv_istore (lv' := [(7, .int (nI (t / 144 % 10 * 6))), (6, .int (nI (t / 144))), (0, .ref ag), (1, .ref ar), (2, .ref ad), (3, .int p1), (4, .ref q2), (5, .int (nI i))]) hx hb dL_run_38 hl (by decide) rfl (fun ls hl => ?_)
    refine lv_aload_n hx hb dL_run_40 rfl (lv_at hl 2 rfl) ?_
    refine lv_iconst (v := 0) hx hb dL_run_41 (by decide) ?_
    refine lv_dup2_11 hx hb dL_run_42 rfl rfl ?_
    refine ag_ild (k := 0) (v := gi 0) hx hb hK hP 0 rfl rfl (Nat.le_of_ble_eq_true rfl) (Nat.le_of_ble_eq_true rfl) rfl dL_run_43 ?_
    refine lv_iconst (v := 1) hx hb dL_run_44 (by decide) ?_
    refine lv_iadd hx hb dL_run_45 ?_
    refine ag_topn (v := xv46_2_L_run gi) rfl (fun x46_2 ex46_2 => ?_)
    refine ag_ist (k := 0) hx hb hK hP hD hS 0 rfl rfl (Nat.le_of_ble_eq_true rfl) (Nat.le_of_ble_eq_true rfl) dL_run_46 (fun H locs hP hD hS => ?_)
    have hP : va_P D vwCl [aI cI ag 18 (upd gi 0 x46_2), aI cI ar 60 ri, aI cI ad 10 di, aI cI q2 7 g18_1] H := hP
    have hD : va_D A [aI cI ag 18 (upd gi 0 x46_2), aI cI ar 60 ri, aI cI ad 10 di, aI cI q2 7 g18_1] := hD
    refine lv_aload_n hx hb dL_run_47 rfl (lv_at hl 2 rfl) ?_
    refine lv_iconst (v := 1) hx hb dL_run_48 (by decide) ?_
    refine lv_dup2_11 hx hb dL_run_49 rfl rfl ?_
    refine ag_ild (k := 1) (v := gi 1) hx hb hK hP 0 rfl rfl (Nat.le_of_ble_eq_true rfl) (Nat.le_of_ble_eq_true rfl) rfl dL_run_50 ?_
    refine lv_aload hx hb dL_run_51 (lv_at hl 6 rfl) ?_
    refine lv_iconst (v := 3) hx hb dL_run_53 (by decide) ?_
    refine ag_ild (k := 3) (v := g18_1 3) hx hb hK hP 3 rfl rfl (Nat.le_of_ble_eq_true rfl) (Nat.le_of_ble_eq_true rfl) rfl dL_run_54 ?_
    refine lv_iadd hx hb dL_run_55 ?_
    refine ag_topn (v := xv56_3_L_run gi wi) (by rw [← eg18_1]; rfl) (fun x56_3 ex56_3 => ?_)
    refine ag_ist (k := 1) hx hb hK hP hD hS 0 rfl rfl (Nat.le_of_ble_eq_true rfl) (Nat.le_of_ble_eq_true rfl) dL_run_56 (fun H locs hP hD hS => ?_)
    have hP : va_P D vwCl [aI cI ag 18 (upd (upd gi 0 x46_2) 1 x56_3), aI cI ar 60 ri, aI cI ad 10 di, aI cI q2 7 g18_1] H := hP
    have hD : va_D A [aI cI ag 18 (upd (upd gi 0 x46_2) 1 x56_3), aI cI ar 60 ri, aI cI ad 10 di, aI cI q2 7 g18_1] := hD
    refine lv_aload_n hx hb dL_run_57 rfl (lv_at hl 2 rfl) ?_
    refine lv_iconst (v := 2) hx hb dL_run_58 (by decide) ?_
    refine lv_dup2_11 hx hb dL_run_59 rfl rfl ?_
    refine ag_ild (k := 2) (v := gi 2) hx hb hK hP 0 rfl rfl (Nat.le_of_ble_eq_true rfl) (Nat.le_of_ble_eq_true rfl) rfl dL_run_60 ?_
    refine lv_aload hx hb dL_run_61 (lv_at hl 6 rfl) ?_
    refine lv_bipush (v := 6) hx hb dL_run_63 (by decide) ?_
    refine ag_ild (k := 6) (v := g18_1 6) hx hb hK hP 3 rfl rfl (Nat.le_of_ble_eq_true rfl) (Nat.le_of_ble_eq_true rfl) rfl dL_run_65 ?_
    refine lv_iadd hx hb dL_run_66 ?_
    refine ag_topn (v := xv67_4_L_run gi wi) (by rw [← eg18_1]; rfl) (fun x67_4 ex67_4 => ?_)
    refine ag_ist (k := 2) hx hb hK hP hD hS 0 rfl rfl (Nat.le_of_ble_eq_true rfl) (Nat.le_of_ble_eq_true rfl) dL_run_67 (fun H locs hP hD hS => ?_)
    have hP : va_P D vwCl [aI cI ag 18 (upd (upd (upd gi 0 x46_2) 1 x56_3) 2 x67_4), aI cI ar 60 ri, aI cI ad 10 di, aI cI q2 7 g18_1] H := hP
    have hD : va_D A [aI cI ag 18 (upd (upd (upd gi 0 x46_2) 1 x56_3) 2 x67_4), aI cI ar 60 ri, aI cI ad 10 di, aI cI q2 7 g18_1] := hD
    refine lv_aload_n hx hb dL_run_68 rfl (lv_at hl 2 rfl) ?_
    refine lv_bipush (v := 11) hx hb dL_run_69 (by decide) ?_
    refine lv_dup2_11 hx hb dL_run_71 rfl rfl ?_
    refine ag_ild (k := 11) (v := gi 11) hx hb hK hP 0 rfl rfl (Nat.le_of_ble_eq_true rfl) (Nat.le_of_ble_eq_true rfl) rfl dL_run_72 ?_
    refine lv_aload hx hb dL_run_73 (lv_at hl 6 rfl) ?_
    refine lv_iconst (v := 4) hx hb dL_run_75 (by decide) ?_
    refine ag_ild (k := 4) (v := g18_1 4) hx hb hK hP 3 rfl rfl (Nat.le_of_ble_eq_true rfl) (Nat.le_of_ble_eq_true rfl) rfl dL_run_76 ?_
    refine lv_iadd hx hb dL_run_77 ?_
    refine ag_topn (v := xv78_5_L_run gi wi) (by rw [← eg18_1]; rfl) (fun x78_5 ex78_5 => ?_)
    refine ag_ist (k := 11) hx hb hK hP hD hS 0 rfl rfl (Nat.le_of_ble_eq_true rfl) (Nat.le_of_ble_eq_true rfl) dL_run_78 (fun H locs hP hD hS => ?_)
    have hP : va_P D vwCl [aI cI ag 18 (upd (upd (upd (upd gi 0 x46_2) 1 x56_3) 2 x67_4) 11 x78_5), aI cI ar 60 ri, aI cI ad 10 di, aI cI q2 7 g18_1] H := hP
    have hD : va_D A [aI cI ag 18 (upd (upd (upd (upd gi 0 x46_2) 1 x56_3) 2 x67_4) 11 x78_5), aI cI ar 60 ri, aI cI ad 10 di, aI cI q2 7 g18_1] := hD
    refine lv_aload_n hx hb dL_run_79 rfl (lv_at hl 2 rfl) ?_
    refine lv_bipush (v := 12) hx hb dL_run_80 (by decide) ?_
    refine lv_dup2_11 hx hb dL_run_82 rfl rfl ?_
    refine ag_ild (k := 12) (v := gi 12) hx hb hK hP 0 rfl rfl (Nat.le_of_ble_eq_true rfl) (Nat.le_of_ble_eq_true rfl) rfl dL_run_83 ?_
    refine lv_aload hx hb dL_run_84 (lv_at hl 6 rfl) ?_
    refine lv_iconst (v := 5) hx hb dL_run_86 (by decide) ?_
    refine ag_ild (k := 5) (v := g18_1 5) hx hb hK hP 3 rfl rfl (Nat.le_of_ble_eq_true rfl) (Nat.le_of_ble_eq_true rfl) rfl dL_run_87 ?_
    refine lv_iadd hx hb dL_run_88 ?_
    refine ag_topn (v := xv89_6_L_run gi wi) (by rw [← eg18_1]; rfl) (fun x89_6 ex89_6 => ?_)
    refine ag_ist (k := 12) hx hb hK hP hD hS 0 rfl rfl (Nat.le_of_ble_eq_true rfl) (Nat.le_of_ble_eq_true rfl) dL_run_89 (fun H locs hP hD hS => ?_)
    have hP : va_P D vwCl [aI cI ag 18 (upd (upd (upd (upd (upd gi 0 x46_2) 1 x56_3) 2 x67_4) 11 x78_5) 12 x89_6), aI cI ar 60 ri, aI cI ad 10 di, aI cI q2 7 g18_1] H := hP
    have hD : va_D A [aI cI ag 18 (upd (upd (upd (upd (upd gi 0 x46_2) 1 x56_3) 2 x67_4) 11 x78_5) 12 x89_6), aI cI ar 60 ri, aI cI ad 10 di, aI cI q2 7 g18_1] := hD
    refine lv_aload_n hx hb dL_run_90 rfl (lv_at hl 2 rfl) ?_
    refine lv_aload hx hb dL_run_91 (lv_at hl 6 rfl) ?_
    refine lv_iconst (v := 3) hx hb dL_run_93 (by decide) ?_
    refine ag_ild (k := 3) (v := g18_1 3) hx hb hK hP 3 rfl rfl (Nat.le_of_ble_eq_true rfl) (Nat.le_of_ble_eq_true rfl) rfl dL_run_94 ?_
    have J105 : ∀ (ls : Array Slot), lv_has ls 9 [(0, .ref ag), (1, .ref ar), (2, .ref ad), (3, .int p1), (4, .ref q2), (5, .int (nI i)), (6, .int (nI (t / 144))), (7, .int (nI (t / 144 % 10 * 6)))] → W p l e (ag_rn 2 48 1 7) s m ([.ref ag, .ref ar, .ref ad, .int p1] : List Value).toArray below meth c H locs 1 7 (MQ below (va_Qv (po_L_run cI cC cL ag ar ad ug ur ud p1 T N f se to re kf hp hN2 hX) (ag_Out D [aI cI ag 18 ug, aI cI ar 60 ur, aI cI ad 10 ud]) A) ([.ref ag, .ref ar, .ref ad, .int p1] : List Value).toArray s 1 7 A) (F0 m 105 ls [.int (j105_0_L_run gi wi), .ref ag]) := by
      intro ls hl
      refine lv_dup2_11 hx hb dL_run_105 rfl rfl ?_
      refine ag_ild (k := ix1 ((gv18_1_L_run gi wi) 3)) (v := (upd (upd (upd (upd (upd gi 0 x46_2) 1 x56_3) 2 x67_4) 11 x78_5) 12 x89_6) (ix1 ((gv18_1_L_run gi wi) 3))) hx hb hK hP 0 rfl (ix1_eq _) (ix1_lt _) (Nat.le_of_ble_eq_true rfl) rfl dL_run_106 ?_
      refine lv_aload hx hb dL_run_107 (lv_at hl 4 rfl) ?_
      refine lv_iconst (v := 3) hx hb dL_run_109 (by decide) ?_
      refine ag_ild (k := 3) (v := g18_1 3) hx hb hK hP 3 rfl rfl (Nat.le_of_ble_eq_true rfl) (Nat.le_of_ble_eq_true rfl) rfl dL_run_110 ?_
      refine ag_callSi (As := [.int (g18_1 3)]) (rest := [.int ((upd (upd (upd (upd (upd gi 0 x46_2) 1 x56_3) 2 x67_4) 11 x78_5) 12 x89_6) (ix1 ((gv18_1_L_run gi wi) 3))), .int (j105_0_L_run gi wi), .ref ag]) hx hb hml hown hG hK hN hA hP hD hS hl (ct_L_size l D cI cC cL (g18_1 3)) fL_size k_396 ag_cut_0 rfl (Nat.le_of_ble_eq_true rfl) ⟨Nat.le_of_ble_eq_true rfl, Nat.le_of_ble_eq_true rfl⟩ ⟨Nat.le_of_ble_eq_true rfl, Nat.le_of_ble_eq_true rfl⟩ dL_run_111 (fun r w1 H locs hw hP hD hS => ?_)
      obtain ⟨rfl, hw⟩ := hw
      subst hw
      have hP : va_P D vwCl [aI cI ag 18 (upd (upd (upd (upd (upd gi 0 x46_2) 1 x56_3) 2 x67_4) 11 x78_5) 12 x89_6), aI cI ar 60 ri, aI cI ad 10 di, aI cI q2 7 g18_1] H := hP
      have hD : va_D A [aI cI ag 18 (upd (upd (upd (upd (upd gi 0 x46_2) 1 x56_3) 2 x67_4) 11 x78_5) 12 x89_6), aI cI ar 60 ri, aI cI ad 10 di, aI cI q2 7 g18_1] := hD
      refine lv_iadd hx hb dL_run_114 ?_
      refine ag_topn (v := xv115_7_L_run gi wi) (by rw [← eg18_1, ← ex46_2, ← ex56_3, ← ex67_4, ← ex78_5, ← ex89_6]; rfl) (fun x115_7 ex115_7 => ?_)
      refine ag_ist (k := ix1 ((gv18_1_L_run gi wi) 3)) hx hb hK hP hD hS 0 rfl (ix1_eq _) (ix1_lt _) (Nat.le_of_ble_eq_true rfl) dL_run_115 (fun H locs hP hD hS => ?_)
      have hP : va_P D vwCl [aI cI ag 18 (upd (upd (upd (upd (upd (upd gi 0 x46_2) 1 x56_3) 2 x67_4) 11 x78_5) 12 x89_6) (ix1 ((gv18_1_L_run gi wi) 3)) x115_7), aI cI ar 60 ri, aI cI ad 10 di, aI cI q2 7 g18_1] H := hP
      have hD : va_D A [aI cI ag 18 (upd (upd (upd (upd (upd (upd gi 0 x46_2) 1 x56_3) 2 x67_4) 11 x78_5) 12 x89_6) (ix1 ((gv18_1_L_run gi wi) 3)) x115_7), aI cI ar 60 ri, aI cI ad 10 di, aI cI q2 7 g18_1] := hD
      refine lv_aload_n hx hb dL_run_116 rfl (lv_at hl 0 rfl) ?_
      refine lv_aload hx hb dL_run_117 (lv_at hl 4 rfl) ?_
      refine lv_bipush (v := 6) hx hb dL_run_119 (by decide) ?_
      refine ag_ild (k := 6) (v := g18_1 6) hx hb hK hP 3 rfl rfl (Nat.le_of_ble_eq_true rfl) (Nat.le_of_ble_eq_true rfl) rfl dL_run_121 ?_
      have J132 : ∀ (ls : Array Slot), lv_has ls 9 [(0, .ref ag), (1, .ref ar), (2, .ref ad), (3, .int p1), (4, .ref q2), (5, .int (nI i)), (6, .int (nI (t / 144))), (7, .int (nI (t / 144 % 10 * 6)))] → W p l e (ag_rn 2 48 1 7) s m ([.ref ag, .ref ar, .ref ad, .int p1] : List Value).toArray below meth c H locs 1 7 (MQ below (va_Qv (po_L_run cI cC cL ag ar ad ug ur ud p1 T N f se to re kf hp hN2 hX) (ag_Out D [aI cI ag 18 ug, aI cI ar 60 ur, aI cI ad 10 ud]) A) ([.ref ag, .ref ar, .ref ad, .int p1] : List Value).toArray s 1 7 A) (F0 m 132 ls [.int (j132_0_L_run gi wi), .ref ag]) := by
        intro ls hl
        refine lv_dup2_11 hx hb dL_run_132 rfl rfl ?_
        refine ag_ild (k := ix2 ((gv18_1_L_run gi wi) 6)) (v := (upd (upd (upd (upd (upd (upd gi 0 x46_2) 1 x56_3) 2 x67_4) 11 x78_5) 12 x89_6) (ix1 ((gv18_1_L_run gi wi) 3)) x115_7) (ix2 ((gv18_1_L_run gi wi) 6))) hx hb hK hP 0 rfl (ix2_eq _) (ix2_lt _) (Nat.le_of_ble_eq_true rfl) rfl dL_run_133 ?_
        refine lv_aload hx hb dL_run_134 (lv_at hl 4 rfl) ?_
        refine lv_bipush (v := 6) hx hb dL_run_136 (by decide) ?_
        refine ag_ild (k := 6) (v := g18_1 6) hx hb hK hP 3 rfl rfl (Nat.le_of_ble_eq_true rfl) (Nat.le_of_ble_eq_true rfl) rfl dL_run_138 ?_
        refine ag_callSi (As := [.int (g18_1 6)]) (rest := [.int ((upd (upd (upd (upd (upd (upd gi 0 x46_2) 1 x56_3) 2 x67_4) 11 x78_5) 12 x89_6) (ix1 ((gv18_1_L_run gi wi) 3)) x115_7) (ix2 ((gv18_1_L_run gi wi) 6))), .int (j132_0_L_run gi wi), .ref ag]) hx hb hml hown hG hK hN hA hP hD hS hl (ct_L_size l D cI cC cL (g18_1 6)) fL_size k_396 ag_cut_0 rfl (Nat.le_of_ble_eq_true rfl) ⟨Nat.le_of_ble_eq_true rfl, Nat.le_of_ble_eq_true rfl⟩ ⟨Nat.le_of_ble_eq_true rfl, Nat.le_of_ble_eq_true rfl⟩ dL_run_139 (fun r w1 H locs hw hP hD hS => ?_)
        obtain ⟨rfl, hw⟩ := hw
        subst hw
        have hP : va_P D vwCl [aI cI ag 18 (upd (upd (upd (upd (upd (upd gi 0 x46_2) 1 x56_3) 2 x67_4) 11 x78_5) 12 x89_6) (ix1 ((gv18_1_L_run gi wi) 3)) x115_7), aI cI ar 60 ri, aI cI ad 10 di, aI cI q2 7 g18_1] H := hP
        have hD : va_D A [aI cI ag 18 (upd (upd (upd (upd (upd (upd gi 0 x46_2) 1 x56_3) 2 x67_4) 11 x78_5) 12 x89_6) (ix1 ((gv18_1_L_run gi wi) 3)) x115_7), aI cI ar 60 ri, aI cI ad 10 di, aI cI q2 7 g18_1] := hD
        refine lv_iadd hx hb dL_run_142 ?_
        refine ag_topn (v := xv143_8_L_run gi wi) (by rw [← eg18_1, ← ex46_2, ← ex56_3, ← ex67_4, ← ex78_5, ← ex89_6, ← ex115_7]; rfl) (fun x143_8 ex143_8 => ?_)
        refine ag_ist (k := ix2 ((gv18_1_L_run gi wi) 6)) hx hb hK hP hD hS 0 rfl (ix2_eq _) (ix2_lt _) (Nat.le_of_ble_eq_true rfl) dL_run_143 (fun H locs hP hD hS => ?_)
        have hP : va_P D vwCl [aI cI ag 18 (upd (upd (upd (upd (upd (upd (upd gi 0 x46_2) 1 x56_3) 2 x67_4) 11 x78_5) 12 x89_6) (ix1 ((gv18_1_L_run gi wi) 3)) x115_7) (ix2 ((gv18_1_L_run gi wi) 6)) x143_8), aI cI ar 60 ri, aI cI ad 10 di, aI cI q2 7 g18_1] H := hP
        have hD : va_D A [aI cI ag 18 (upd (upd (upd (upd (upd (upd (upd gi 0 x46_2) 1 x56_3) 2 x67_4) 11 x78_5) 12 x89_6) (ix1 ((gv18_1_L_run gi wi) 3)) x115_7) (ix2 ((gv18_1_L_run gi wi) 6)) x143_8), aI cI ar 60 ri, aI cI ad 10 di, aI cI q2 7 g18_1] := hD
        refine lv_aload_n hx hb dL_run_144 rfl (lv_at hl 2 rfl) ?_
        refine lv_iload hx hb dL_run_145 (lv_at hl 6 rfl) ?_
        refine lv_bipush (v := 10) hx hb dL_run_147 (by decide) ?_
        refine lv_irem hx hb dL_run_149 (by decide) ?_
        refine ag_tope (nI (t / 144 % 10)) (trem (by omega)) ?_
        refine ag_ild (k := t / 144 % 10) (v := di (t / 144 % 10)) hx hb hK hP 2 rfl rfl (by have := Nat.mod_lt (t / 144) (show 0 < 10 by decide); omega) (Nat.le_of_ble_eq_true rfl) rfl dL_run_150 ?_
        refine lv_iload hx hb dL_run_151 (lv_at hl 6 rfl) ?_
        have J161 : ∀ (ls : Array Slot), lv_has ls 9 [(0, .ref ag), (1, .ref ar), (2, .ref ad), (3, .int p1), (4, .ref q2), (5, .int (nI i)), (6, .int (nI (t / 144))), (7, .int (nI (t / 144 % 10 * 6)))] → W p l e (ag_rn 2 48 1 7) s m ([.ref ag, .ref ar, .ref ad, .int p1] : List Value).toArray below meth c H locs 1 7 (MQ below (va_Qv (po_L_run cI cC cL ag ar ad ug ur ud p1 T N f se to re kf hp hN2 hX) (ag_Out D [aI cI ag 18 ug, aI cI ar 60 ur, aI cI ad 10 ud]) A) ([.ref ag, .ref ar, .ref ad, .int p1] : List Value).toArray s 1 7 A) (F0 m 161 ls [.int (j161_0_L_run t di)]) := by
          intro ls hl
          refine lv_istore (lv' := [(8, .int (j161_0_L_run t di)), (0, .ref ag), (1, .ref ar), (2, .ref ad), (3, .int p1), (4, .ref q2), (5, .int (nI i)), (6, .int (nI (t / 144))), (7, .int (nI (t / 144 % 10 * 6)))]) hx hb dL_run_161 hl (by decide) rfl (fun ls hl => ?_)
          refine lv_aload_n hx hb dL_run_163 rfl (lv_at hl 3 rfl) ?_
          refine lv_iload hx hb dL_run_164 (lv_at hl 7 rfl) ?_
          refine lv_bipush (v := 10) hx hb dL_run_166 (by decide) ?_
          refine lv_irem hx hb dL_run_168 (by decide) ?_
          refine ag_tope (nI (t / 144 % 10)) (trem (by omega)) ?_
          refine lv_iload hx hb dL_run_169 (lv_at hl 7 rfl) ?_
          refine ag_topn (v := xv171_9_L_run t) rfl (fun x171_9 ex171_9 => ?_)
          refine ag_ist (k := t / 144 % 10) hx hb hK hP hD hS 2 rfl rfl (by have := Nat.mod_lt (t / 144) (show 0 < 10 by decide); omega) (Nat.le_of_ble_eq_true rfl) dL_run_171 (fun H locs hP hD hS => ?_)
          have hP : va_P D vwCl [aI cI ag 18 (upd (upd (upd (upd (upd (upd (upd gi 0 x46_2) 1 x56_3) 2 x67_4) 11 x78_5) 12 x89_6) (ix1 ((gv18_1_L_run gi wi) 3)) x115_7) (ix2 ((gv18_1_L_run gi wi) 6)) x143_8), aI cI ar 60 ri, aI cI ad 10 (upd di (t / 144 % 10) x171_9), aI cI q2 7 g18_1] H := hP
          have hD : va_D A [aI cI ag 18 (upd (upd (upd (upd (upd (upd (upd gi 0 x46_2) 1 x56_3) 2 x67_4) 11 x78_5) 12 x89_6) (ix1 ((gv18_1_L_run gi wi) 3)) x115_7) (ix2 ((gv18_1_L_run gi wi) 6)) x143_8), aI cI ar 60 ri, aI cI ad 10 (upd di (t / 144 % 10) x171_9), aI cI q2 7 g18_1] := hD
          refine lv_aload_n hx hb dL_run_172 rfl (lv_at hl 2 rfl) ?_
          refine lv_iload hx hb dL_run_173 (lv_at hl 8 rfl) ?_
          refine lv_aload hx hb dL_run_175 (lv_at hl 5 rfl) ?_
          refine lv_iconst (v := 4) hx hb dL_run_177 (by decide) ?_
          refine ag_ild (k := 4) (v := g18_1 4) hx hb hK hP 3 rfl rfl (Nat.le_of_ble_eq_true rfl) (Nat.le_of_ble_eq_true rfl) rfl dL_run_178 ?_
          refine lv_iload hx hb dL_run_179 (lv_at hl 0 rfl) ?_
          have J192 : ∀ (ls : Array Slot), lv_has ls 9 [(0, .ref ag), (1, .ref ar), (2, .ref ad), (3, .int p1), (4, .ref q2), (5, .int (nI i)), (6, .int (nI (t / 144))), (7, .int (nI (t / 144 % 10 * 6))), (8, .int (j161_0_L_run t di))] → W p l e (ag_rn 2 48 1 7) s m ([.ref ag, .ref ar, .ref ad, .int p1] : List Value).toArray below meth c H locs 1 7 (MQ below (va_Qv (po_L_run cI cC cL ag ar ad ug ur ud p1 T N f se to re kf hp hN2 hX) (ag_Out D [aI cI ag 18 ug, aI cI ar 60 ur, aI cI ad 10 ud]) A) ([.ref ag, .ref ar, .ref ad, .int p1] : List Value).toArray s 1 7 A) (F0 m 192 ls [.int (j192_0_L_run t ri di), .int (g18_1 4), .int (nI (t / 144 % 10 * 6)), .ref ar]) := by
            intro ls hl
            refine lv_iadd hx hb dL_run_192 ?_
            refine ag_topn (v := xv193_10_L_run t gi ri di wi) (by rw [← eg18_1]; rfl) (fun x193_10 ex193_10 => ?_)
            refine ag_ist (k := t / 144 % 10 * 6) hx hb hK hP hD hS 1 rfl rfl (by have := Nat.mod_lt (t / 144) (show 0 < 10 by decide); omega) (Nat.le_of_ble_eq_true rfl) dL_run_193 (fun H locs hP hD hS => ?_)
            have hP : va_P D vwCl [aI cI ag 18 (upd (upd (upd (upd (upd (upd (upd gi 0 x46_2) 1 x56_3) 2 x67_4) 11 x78_5) 12 x89_6) (ix1 ((gv18_1_L_run gi wi) 3)) x115_7) (ix2 ((gv18_1_L_run gi wi) 6)) x143_8), aI cI ar 60 (upd ri (t / 144 % 10 * 6) x193_10), aI cI ad 10 (upd di (t / 144 % 10) x171_9), aI cI q2 7 g18_1] H := hP
            have hD : va_D A [aI cI ag 18 (upd (upd (upd (upd (upd (upd (upd gi 0 x46_2) 1 x56_3) 2 x67_4) 11 x78_5) 12 x89_6) (ix1 ((gv18_1_L_run gi wi) 3)) x115_7) (ix2 ((gv18_1_L_run gi wi) 6)) x143_8), aI cI ar 60 (upd ri (t / 144 % 10 * 6) x193_10), aI cI ad 10 (upd di (t / 144 % 10) x171_9), aI cI q2 7 g18_1] := hD
            refine lv_aload_n hx hb dL_run_194 rfl (lv_at hl 1 rfl) ?_
            refine lv_iload hx hb dL_run_195 (lv_at hl 7 rfl) ?_
            refine lv_iconst (v := 1) hx hb dL_run_197 (by decide) ?_
            refine lv_iadd hx hb dL_run_198 ?_
            refine lv_aload hx hb dL_run_199 (lv_at hl 4 rfl) ?_
            refine lv_iconst (v := 5) hx hb dL_run_201 (by decide) ?_
            refine ag_ild (k := 5) (v := g18_1 5) hx hb hK hP 3 rfl rfl (Nat.le_of_ble_eq_true rfl) (Nat.le_of_ble_eq_true rfl) rfl dL_run_202 ?_
            refine lv_iload hx hb dL_run_203 (lv_at hl 8 rfl) ?_
            have J218 : ∀ (ls : Array Slot), lv_has ls 9 [(0, .ref ag), (1, .ref ar), (2, .ref ad), (3, .int p1), (4, .ref q2), (5, .int (nI i)), (6, .int (nI (t / 144))), (7, .int (nI (t / 144 % 10 * 6))), (8, .int (j161_0_L_run t di))] → W p l e (ag_rn 2 48 1 7) s m ([.ref ag, .ref ar, .ref ad, .int p1] : List Value).toArray below meth c H locs 1 7 (MQ below (va_Qv (po_L_run cI cC cL ag ar ad ug ur ud p1 T N f se to re kf hp hN2 hX) (ag_Out D [aI cI ag 18 ug, aI cI ar 60 ur, aI cI ad 10 ud]) A) ([.ref ag, .ref ar, .ref ad, .int p1] : List Value).toArray s 1 7 A) (F0 m 218 ls [.int (j218_0_L_run t gi ri di wi), .int (g18_1 5), .int ((nI (t / 144 % 10 * 6)) + 1), .ref ar]) := by
              intro ls hl
              refine lv_iadd hx hb dL_run_218 ?_
              refine ag_topn (v := xv219_11_L_run t gi ri di wi) (by rw [← eg18_1]; rfl) (fun x219_11 ex219_11 => ?_)
              refine ag_ist (k := (t / 144 % 10 * 6) + 1) hx hb hK hP hD hS 1 rfl ((congrArg (· + (1 : Int32)) rfl).trans (nI_add _ 1)) (by have := Nat.mod_lt (t / 144) (show 0 < 10 by decide); omega) (Nat.le_of_ble_eq_true rfl) dL_run_219 (fun H locs hP hD hS => ?_)
              have hP : va_P D vwCl [aI cI ag 18 (upd (upd (upd (upd (upd (upd (upd gi 0 x46_2) 1 x56_3) 2 x67_4) 11 x78_5) 12 x89_6) (ix1 ((gv18_1_L_run gi wi) 3)) x115_7) (ix2 ((gv18_1_L_run gi wi) 6)) x143_8), aI cI ar 60 (upd (upd ri (t / 144 % 10 * 6) x193_10) ((t / 144 % 10 * 6) + 1) x219_11), aI cI ad 10 (upd di (t / 144 % 10) x171_9), aI cI q2 7 g18_1] H := hP
              have hD : va_D A [aI cI ag 18 (upd (upd (upd (upd (upd (upd (upd gi 0 x46_2) 1 x56_3) 2 x67_4) 11 x78_5) 12 x89_6) (ix1 ((gv18_1_L_run gi wi) 3)) x115_7) (ix2 ((gv18_1_L_run gi wi) 6)) x143_8), aI cI ar 60 (upd (upd ri (t / 144 % 10 * 6) x193_10) ((t / 144 % 10 * 6) + 1) x219_11), aI cI ad 10 (upd di (t / 144 % 10) x171_9), aI cI q2 7 g18_1] := hD
              refine lv_aload_n hx hb dL_run_220 rfl (lv_at hl 1 rfl) ?_
              refine lv_iload hx hb dL_run_221 (lv_at hl 7 rfl) ?_
              refine lv_iconst (v := 2) hx hb dL_run_223 (by decide) ?_
              refine lv_iadd hx hb dL_run_224 ?_
              refine lv_iload hx hb dL_run_225 (lv_at hl 8 rfl) ?_
              have J256 : ∀ (H : Heap) (locs : List Loc), va_P D vwCl [aI cI ag 18 (upd (upd (upd (upd (upd (upd (upd gi 0 x46_2) 1 x56_3) 2 x67_4) 11 x78_5) 12 x89_6) (ix1 ((gv18_1_L_run gi wi) 3)) x115_7) (ix2 ((gv18_1_L_run gi wi) 6)) x143_8), aI cI ar 60 (upd (upd ri (t / 144 % 10 * 6) x193_10) ((t / 144 % 10 * 6) + 1) x219_11), aI cI ad 10 (upd di (t / 144 % 10) x171_9), aI cI q2 7 g18_1] H → va_D A [aI cI ag 18 (upd (upd (upd (upd (upd (upd (upd gi 0 x46_2) 1 x56_3) 2 x67_4) 11 x78_5) 12 x89_6) (ix1 ((gv18_1_L_run gi wi) 3)) x115_7) (ix2 ((gv18_1_L_run gi wi) 6)) x143_8), aI cI ar 60 (upd (upd ri (t / 144 % 10 * 6) x193_10) ((t / 144 % 10 * 6) + 1) x219_11), aI cI ad 10 (upd di (t / 144 % 10) x171_9), aI cI q2 7 g18_1] → va_S A s.heap H locs → ∀ (ls : Array Slot), lv_has ls 9 [(0, .ref ag), (1, .ref ar), (2, .ref ad), (3, .int p1), (4, .ref q2), (5, .int (nI i)), (6, .int (nI (t / 144))), (7, .int (nI (t / 144 % 10 * 6))), (8, .int (j161_0_L_run t di))] → W p l e (ag_rn 2 48 1 7) s m ([.ref ag, .ref ar, .ref ad, .int p1] : List Value).toArray below meth c H locs 1 7 (MQ below (va_Qv (po_L_run cI cC cL ag ar ad ug ur ud p1 T N f se to re kf hp hN2 hX) (ag_Out D [aI cI ag 18 ug, aI cI ar 60 ur, aI cI ad 10 ud]) A) ([.ref ag, .ref ar, .ref ad, .int p1] : List Value).toArray s 1 7 A) (F0 m 256 ls [.int (j256_0_L_run t gi ri di wi), .int ((nI (t / 144 % 10 * 6)) + 2), .ref ar]) := by
                intro H locs hP hD hS ls hl
                refine ag_topn (v := xv256_12_L_run t gi ri di wi) rfl (fun x256_12 ex256_12 => ?_)
                refine ag_ist (k := (t / 144 % 10 * 6) + 2) hx hb hK hP hD hS 1 rfl ((congrArg (· + (2 : Int32)) rfl).trans (nI_add _ 2)) (by have := Nat.mod_lt (t / 144) (show 0 < 10 by decide); omega) (Nat.le_of_ble_eq_true rfl) dL_run_256 (fun H locs hP hD hS => ?_)
                have hP : va_P D vwCl [aI cI ag 18 (upd (upd (upd (upd (upd (upd (upd gi 0 x46_2) 1 x56_3) 2 x67_4) 11 x78_5) 12 x89_6) (ix1 ((gv18_1_L_run gi wi) 3)) x115_7) (ix2 ((gv18_1_L_run gi wi) 6)) x143_8), aI cI ar 60 (upd (upd (upd ri (t / 144 % 10 * 6) x193_10) ((t / 144 % 10 * 6) + 1) x219_11) ((t / 144 % 10 * 6) + 2) x256_12), aI cI ad 10 (upd di (t / 144 % 10) x171_9), aI cI q2 7 g18_1] H := hP
                have hD : va_D A [aI cI ag 18 (upd (upd (upd (upd (upd (upd (upd gi 0 x46_2) 1 x56_3) 2 x67_4) 11 x78_5) 12 x89_6) (ix1 ((gv18_1_L_run gi wi) 3)) x115_7) (ix2 ((gv18_1_L_run gi wi) 6)) x143_8), aI cI ar 60 (upd (upd (upd ri (t / 144 % 10 * 6) x193_10) ((t / 144 % 10 * 6) + 1) x219_11) ((t / 144 % 10 * 6) + 2) x256_12), aI cI ad 10 (upd di (t / 144 % 10) x171_9), aI cI q2 7 g18_1] := hD
                refine lv_aload_n hx hb dL_run_257 rfl (lv_at hl 1 rfl) ?_
                refine lv_iload hx hb dL_run_258 (lv_at hl 7 rfl) ?_
                refine lv_iconst (v := 3) hx hb dL_run_260 (by decide) ?_
                refine lv_iadd hx hb dL_run_261 ?_
                refine lv_iload hx hb dL_run_262 (lv_at hl 8 rfl) ?_
                have J293 : ∀ (H : Heap) (locs : List Loc), va_P D vwCl [aI cI ag 18 (upd (upd (upd (upd (upd (upd (upd gi 0 x46_2) 1 x56_3) 2 x67_4) 11 x78_5) 12 x89_6) (ix1 ((gv18_1_L_run gi wi) 3)) x115_7) (ix2 ((gv18_1_L_run gi wi) 6)) x143_8), aI cI ar 60 (upd (upd (upd ri (t / 144 % 10 * 6) x193_10) ((t / 144 % 10 * 6) + 1) x219_11) ((t / 144 % 10 * 6) + 2) x256_12), aI cI ad 10 (upd di (t / 144 % 10) x171_9), aI cI q2 7 g18_1] H → va_D A [aI cI ag 18 (upd (upd (upd (upd (upd (upd (upd gi 0 x46_2) 1 x56_3) 2 x67_4) 11 x78_5) 12 x89_6) (ix1 ((gv18_1_L_run gi wi) 3)) x115_7) (ix2 ((gv18_1_L_run gi wi) 6)) x143_8), aI cI ar 60 (upd (upd (upd ri (t / 144 % 10 * 6) x193_10) ((t / 144 % 10 * 6) + 1) x219_11) ((t / 144 % 10 * 6) + 2) x256_12), aI cI ad 10 (upd di (t / 144 % 10) x171_9), aI cI q2 7 g18_1] → va_S A s.heap H locs → ∀ (ls : Array Slot), lv_has ls 9 [(0, .ref ag), (1, .ref ar), (2, .ref ad), (3, .int p1), (4, .ref q2), (5, .int (nI i)), (6, .int (nI (t / 144))), (7, .int (nI (t / 144 % 10 * 6))), (8, .int (j161_0_L_run t di))] → W p l e (ag_rn 2 48 1 7) s m ([.ref ag, .ref ar, .ref ad, .int p1] : List Value).toArray below meth c H locs 1 7 (MQ below (va_Qv (po_L_run cI cC cL ag ar ad ug ur ud p1 T N f se to re kf hp hN2 hX) (ag_Out D [aI cI ag 18 ug, aI cI ar 60 ur, aI cI ad 10 ud]) A) ([.ref ag, .ref ar, .ref ad, .int p1] : List Value).toArray s 1 7 A) (F0 m 293 ls [.int (j293_0_L_run t gi ri di wi), .int ((nI (t / 144 % 10 * 6)) + 3), .ref ar]) := by
                  intro H locs hP hD hS ls hl
                  refine ag_topn (v := xv293_13_L_run t gi ri di wi) rfl (fun x293_13 ex293_13 => ?_)
                  refine ag_ist (k := (t / 144 % 10 * 6) + 3) hx hb hK hP hD hS 1 rfl ((congrArg (· + (3 : Int32)) rfl).trans (nI_add _ 3)) (by have := Nat.mod_lt (t / 144) (show 0 < 10 by decide); omega) (Nat.le_of_ble_eq_true rfl) dL_run_293 (fun H locs hP hD hS => ?_)
                  have hP : va_P D vwCl [aI cI ag 18 (upd (upd (upd (upd (upd (upd (upd gi 0 x46_2) 1 x56_3) 2 x67_4) 11 x78_5) 12 x89_6) (ix1 ((gv18_1_L_run gi wi) 3)) x115_7) (ix2 ((gv18_1_L_run gi wi) 6)) x143_8), aI cI ar 60 (upd (upd (upd (upd ri (t / 144 % 10 * 6) x193_10) ((t / 144 % 10 * 6) + 1) x219_11) ((t / 144 % 10 * 6) + 2) x256_12) ((t / 144 % 10 * 6) + 3) x293_13), aI cI ad 10 (upd di (t / 144 % 10) x171_9), aI cI q2 7 g18_1] H := hP
                  have hD : va_D A [aI cI ag 18 (upd (upd (upd (upd (upd (upd (upd gi 0 x46_2) 1 x56_3) 2 x67_4) 11 x78_5) 12 x89_6) (ix1 ((gv18_1_L_run gi wi) 3)) x115_7) (ix2 ((gv18_1_L_run gi wi) 6)) x143_8), aI cI ar 60 (upd (upd (upd (upd ri (t / 144 % 10 * 6) x193_10) ((t / 144 % 10 * 6) + 1) x219_11) ((t / 144 % 10 * 6) + 2) x256_12) ((t / 144 % 10 * 6) + 3) x293_13), aI cI ad 10 (upd di (t / 144 % 10) x171_9), aI cI q2 7 g18_1] := hD
                  refine lv_aload_n hx hb dL_run_294 rfl (lv_at hl 1 rfl) ?_
                  refine lv_iload hx hb dL_run_295 (lv_at hl 7 rfl) ?_
                  refine lv_iconst (v := 4) hx hb dL_run_297 (by decide) ?_
                  refine lv_iadd hx hb dL_run_298 ?_
                  refine lv_aload hx hb dL_run_299 (lv_at hl 4 rfl) ?_
                  refine lv_iconst (v := 3) hx hb dL_run_301 (by decide) ?_
                  refine ag_ild (k := 3) (v := g18_1 3) hx hb hK hP 3 rfl rfl (Nat.le_of_ble_eq_true rfl) (Nat.le_of_ble_eq_true rfl) rfl dL_run_302 ?_
                  have J314 : ∀ (ls : Array Slot), lv_has ls 9 [(0, .ref ag), (1, .ref ar), (2, .ref ad), (3, .int p1), (4, .ref q2), (5, .int (nI i)), (6, .int (nI (t / 144))), (7, .int (nI (t / 144 % 10 * 6))), (8, .int (j161_0_L_run t di))] → W p l e (ag_rn 2 48 1 7) s m ([.ref ag, .ref ar, .ref ad, .int p1] : List Value).toArray below meth c H locs 1 7 (MQ below (va_Qv (po_L_run cI cC cL ag ar ad ug ur ud p1 T N f se to re kf hp hN2 hX) (ag_Out D [aI cI ag 18 ug, aI cI ar 60 ur, aI cI ad 10 ud]) A) ([.ref ag, .ref ar, .ref ad, .int p1] : List Value).toArray s 1 7 A) (F0 m 314 ls [.int (j314_0_L_run gi wi), .int ((nI (t / 144 % 10 * 6)) + 4), .ref ar]) := by
                    intro ls hl
                    refine lv_iload hx hb dL_run_314 (lv_at hl 8 rfl) ?_
                    have J329 : ∀ (ls : Array Slot), lv_has ls 9 [(0, .ref ag), (1, .ref ar), (2, .ref ad), (3, .int p1), (4, .ref q2), (5, .int (nI i)), (6, .int (nI (t / 144))), (7, .int (nI (t / 144 % 10 * 6))), (8, .int (j161_0_L_run t di))] → W p l e (ag_rn 2 48 1 7) s m ([.ref ag, .ref ar, .ref ad, .int p1] : List Value).toArray below meth c H locs 1 7 (MQ below (va_Qv (po_L_run cI cC cL ag ar ad ug ur ud p1 T N f se to re kf hp hN2 hX) (ag_Out D [aI cI ag 18 ug, aI cI ar 60 ur, aI cI ad 10 ud]) A) ([.ref ag, .ref ar, .ref ad, .int p1] : List Value).toArray s 1 7 A) (F0 m 329 ls [.int (j329_0_L_run t gi ri di wi), .int (j314_0_L_run gi wi), .int ((nI (t / 144 % 10 * 6)) + 4), .ref ar]) := by
                      intro ls hl
                      refine lv_iadd hx hb dL_run_329 ?_
                      refine ag_topn (v := xv330_14_L_run t gi ri di wi) rfl (fun x330_14 ex330_14 => ?_)
                      refine ag_ist (k := (t / 144 % 10 * 6) + 4) hx hb hK hP hD hS 1 rfl ((congrArg (· + (4 : Int32)) rfl).trans (nI_add _ 4)) (by have := Nat.mod_lt (t / 144) (show 0 < 10 by decide); omega) (Nat.le_of_ble_eq_true rfl) dL_run_330 (fun H locs hP hD hS => ?_)
                      have hP : va_P D vwCl [aI cI ag 18 (upd (upd (upd (upd (upd (upd (upd gi 0 x46_2) 1 x56_3) 2 x67_4) 11 x78_5) 12 x89_6) (ix1 ((gv18_1_L_run gi wi) 3)) x115_7) (ix2 ((gv18_1_L_run gi wi) 6)) x143_8), aI cI ar 60 (upd (upd (upd (upd (upd ri (t / 144 % 10 * 6) x193_10) ((t / 144 % 10 * 6) + 1) x219_11) ((t / 144 % 10 * 6) + 2) x256_12) ((t / 144 % 10 * 6) + 3) x293_13) ((t / 144 % 10 * 6) + 4) x330_14), aI cI ad 10 (upd di (t / 144 % 10) x171_9), aI cI q2 7 g18_1] H := hP
                      have hD : va_D A [aI cI ag 18 (upd (upd (upd (upd (upd (upd (upd gi 0 x46_2) 1 x56_3) 2 x67_4) 11 x78_5) 12 x89_6) (ix1 ((gv18_1_L_run gi wi) 3)) x115_7) (ix2 ((gv18_1_L_run gi wi) 6)) x143_8), aI cI ar 60 (upd (upd (upd (upd (upd ri (t / 144 % 10 * 6) x193_10) ((t / 144 % 10 * 6) + 1) x219_11) ((t / 144 % 10 * 6) + 2) x256_12) ((t / 144 % 10 * 6) + 3) x293_13) ((t / 144 % 10 * 6) + 4) x330_14), aI cI ad 10 (upd di (t / 144 % 10) x171_9), aI cI q2 7 g18_1] := hD
                      refine lv_aload_n hx hb dL_run_331 rfl (lv_at hl 1 rfl) ?_
                      refine lv_iload hx hb dL_run_332 (lv_at hl 7 rfl) ?_
                      refine lv_iconst (v := 5) hx hb dL_run_334 (by decide) ?_
                      refine lv_iadd hx hb dL_run_335 ?_
                      refine lv_aload hx hb dL_run_336 (lv_at hl 4 rfl) ?_
                      refine lv_iconst (v := 3) hx hb dL_run_338 (by decide) ?_
                      refine ag_ild (k := 3) (v := g18_1 3) hx hb hK hP 3 rfl rfl (Nat.le_of_ble_eq_true rfl) (Nat.le_of_ble_eq_true rfl) rfl dL_run_339 ?_
                      have J352 : ∀ (ls : Array Slot), lv_has ls 9 [(0, .ref ag), (1, .ref ar), (2, .ref ad), (3, .int p1), (4, .ref q2), (5, .int (nI i)), (6, .int (nI (t / 144))), (7, .int (nI (t / 144 % 10 * 6))), (8, .int (j161_0_L_run t di))] → W p l e (ag_rn 2 48 1 7) s m ([.ref ag, .ref ar, .ref ad, .int p1] : List Value).toArray below meth c H locs 1 7 (MQ below (va_Qv (po_L_run cI cC cL ag ar ad ug ur ud p1 T N f se to re kf hp hN2 hX) (ag_Out D [aI cI ag 18 ug, aI cI ar 60 ur, aI cI ad 10 ud]) A) ([.ref ag, .ref ar, .ref ad, .int p1] : List Value).toArray s 1 7 A) (F0 m 352 ls [.int (j352_0_L_run gi wi), .int ((nI (t / 144 % 10 * 6)) + 5), .ref ar]) := by
                        intro ls hl
                        refine lv_iload hx hb dL_run_352 (lv_at hl 8 rfl) ?_
                        have J367 : ∀ (ls : Array Slot), lv_has ls 9 [(0, .ref ag), (1, .ref ar), (2, .ref ad), (3, .int p1), (4, .ref q2), (5, .int (nI i)), (6, .int (nI (t / 144))), (7, .int (nI (t / 144 % 10 * 6))), (8, .int (j161_0_L_run t di))] → W p l e (ag_rn 2 48 1 7) s m ([.ref ag, .ref ar, .ref ad, .int p1] : List Value).toArray below meth c H locs 1 7 (MQ below (va_Qv (po_L_run cI cC cL ag ar ad ug ur ud p1 T N f se to re kf hp hN2 hX) (ag_Out D [aI cI ag 18 ug, aI cI ar 60 ur, aI cI ad 10 ud]) A) ([.ref ag, .ref ar, .ref ad, .int p1] : List Value).toArray s 1 7 A) (F0 m 367 ls [.int (j367_0_L_run t gi ri di wi), .int (j352_0_L_run gi wi), .int ((nI (t / 144 % 10 * 6)) + 5), .ref ar]) := by
                          intro ls hl
                          refine lv_iadd hx hb dL_run_367 ?_
                          refine ag_topn (v := xv368_15_L_run t gi ri di wi) rfl (fun x368_15 ex368_15 => ?_)
                          refine ag_ist (k := (t / 144 % 10 * 6) + 5) hx hb hK hP hD hS 1 rfl ((congrArg (· + (5 : Int32)) rfl).trans (nI_add _ 5)) (by have := Nat.mod_lt (t / 144) (show 0 < 10 by decide); omega) (Nat.le_of_ble_eq_true rfl) dL_run_368 (fun H locs hP hD hS => ?_)
                          have hP : va_P D vwCl [aI cI ag 18 (upd (upd (upd (upd (upd (upd (upd gi 0 x46_2) 1 x56_3) 2 x67_4) 11 x78_5) 12 x89_6) (ix1 ((gv18_1_L_run gi wi) 3)) x115_7) (ix2 ((gv18_1_L_run gi wi) 6)) x143_8), aI cI ar 60 (upd (upd (upd (upd (upd (upd ri (t / 144 % 10 * 6) x193_10) ((t / 144 % 10 * 6) + 1) x219_11) ((t / 144 % 10 * 6) + 2) x256_12) ((t / 144 % 10 * 6) + 3) x293_13) ((t / 144 % 10 * 6) + 4) x330_14) ((t / 144 % 10 * 6) + 5) x368_15), aI cI ad 10 (upd di (t / 144 % 10) x171_9), aI cI q2 7 g18_1] H := hP
                          have hD : va_D A [aI cI ag 18 (upd (upd (upd (upd (upd (upd (upd gi 0 x46_2) 1 x56_3) 2 x67_4) 11 x78_5) 12 x89_6) (ix1 ((gv18_1_L_run gi wi) 3)) x115_7) (ix2 ((gv18_1_L_run gi wi) 6)) x143_8), aI cI ar 60 (upd (upd (upd (upd (upd (upd ri (t / 144 % 10 * 6) x193_10) ((t / 144 % 10 * 6) + 1) x219_11) ((t / 144 % 10 * 6) + 2) x256_12) ((t / 144 % 10 * 6) + 3) x293_13) ((t / 144 % 10 * 6) + 4) x330_14) ((t / 144 % 10 * 6) + 5) x368_15), aI cI ad 10 (upd di (t / 144 % 10) x171_9), aI cI q2 7 g18_1] := hD
                          refine lv_iinc (v := nI (i + 1)) (lv' := [(5, .int (nI (i + 1))), (0, .ref ag), (1, .ref ar), (2, .ref ad), (3, .int p1), (4, .ref q2), (6, .int (nI (t / 144))), (7, .int (nI (t / 144 % 10 * 6))), (8, .int (j161_0_L_run t di))]) hx hb dL_run_369 hl (k := 5) rfl (nI_1 i) (by decide) rfl (fun ls hl => ?_)
                          refine lv_goto (tgt := 9) hx hb dL_run_372 (by decide) ?_
                          revert hP; revert hD; revert hS; revert hl
                          subst ex368_15
                          subst ex330_14
                          subst ex293_13
                          subst ex256_12
                          subst ex219_11
                          subst ex193_10
                          subst ex171_9
                          subst ex143_8
                          subst ex115_7
                          subst ex89_6
                          subst ex78_5
                          subst ex67_4
                          subst ex56_3
                          subst ex46_2
                          subst eg18_1
                          intro hl hS hD hP
                          exact ih (t + 1) (i + 1) (lpS se x) (tG gi wi) (tR t gi ri di wi) (tD t di) (tW gi wi) (by omega) (by omega) (tickL (by omega) hR) hE H locs ls (lv_sub hl [1, 2, 3, 4, 5, 0] rfl) hP hD hS
                        refine lv_if_eq (tgt := 361) hx hb dL_run_354 (by decide) (fun c_354 => ?_) (fun c_354 => ?_)
                        · refine lv_aload_n hx hb dL_run_361 rfl (lv_at hl 1 rfl) ?_
                          refine lv_iload hx hb dL_run_362 (lv_at hl 7 rfl) ?_
                          refine lv_iconst (v := 5) hx hb dL_run_364 (by decide) ?_
                          refine lv_iadd hx hb dL_run_365 ?_
                          refine ag_ild (k := (t / 144 % 10 * 6) + 5) (v := (upd ri (t / 144 % 10 * 6) x193_10) ((t / 144 % 10 * 6) + 5)) hx hb hK hP 1 rfl ((congrArg (· + (5 : Int32)) rfl).trans (nI_add _ 5)) (by have := Nat.mod_lt (t / 144) (show 0 < 10 by decide); omega) (Nat.le_of_ble_eq_true rfl) (Eq.trans (pk_un (by omega)) (Eq.trans (pk_un (by omega)) (Eq.trans (pk_un (by omega)) (Eq.trans (pk_un (by omega)) rfl)))) dL_run_366 ?_
                          revert hP; revert hD; revert hS; revert hl
                          subst ex330_14
                          subst ex293_13
                          subst ex256_12
                          subst ex219_11
                          subst ex193_10
                          subst ex171_9
                          subst ex143_8
                          subst ex115_7
                          subst ex89_6
                          subst ex78_5
                          subst ex67_4
                          subst ex56_3
                          subst ex46_2
                          subst eg18_1
                          intro hl hS hD hP
                          simp only [j367_0_L_run, if_pos c_354] at J367
                          exact J367 _ (lv_sub hl [0, 1, 2, 3, 4, 5, 6, 7, 8] rfl)
                        · refine lv_iconst (v := 0) hx hb dL_run_357 (by decide) ?_
                          refine lv_goto (tgt := 367) hx hb dL_run_358 (by decide) ?_
                          revert hP; revert hD; revert hS; revert hl
                          subst ex330_14
                          subst ex293_13
                          subst ex256_12
                          subst ex219_11
                          subst ex193_10
                          subst ex171_9
                          subst ex143_8
                          subst ex115_7
                          subst ex89_6
                          subst ex78_5
                          subst ex67_4
                          subst ex56_3
                          subst ex46_2
                          subst eg18_1
                          intro hl hS hD hP
                          simp only [j367_0_L_run, if_neg c_354] at J367
                          exact J367 _ (lv_sub hl [0, 1, 2, 3, 4, 5, 6, 7, 8] rfl)
                      refine lv_if_ge (tgt := 351) hx hb dL_run_340 (by decide) (fun c_340 => ?_) (fun c_340 => ?_)
                      · refine lv_iconst (v := 0) hx hb dL_run_351 (by decide) ?_
                        revert hP; revert hD; revert hS; revert hl
                        subst ex330_14
                        subst ex293_13
                        subst ex256_12
                        subst ex219_11
                        subst ex193_10
                        subst ex171_9
                        subst ex143_8
                        subst ex115_7
                        subst ex89_6
                        subst ex78_5
                        subst ex67_4
                        subst ex56_3
                        subst ex46_2
                        subst eg18_1
                        intro hl hS hD hP
                        simp only [j352_0_L_run, if_pos c_340] at J352
                        exact J352 _ (lv_sub hl [0, 1, 2, 3, 4, 5, 6, 7, 8] rfl)
                      · refine lv_aload hx hb dL_run_343 (lv_at hl 4 rfl) ?_
                        refine lv_iconst (v := 3) hx hb dL_run_345 (by decide) ?_
                        refine ag_ild (k := 3) (v := g18_1 3) hx hb hK hP 3 rfl rfl (Nat.le_of_ble_eq_true rfl) (Nat.le_of_ble_eq_true rfl) rfl dL_run_346 ?_
                        refine lv_ineg hx hb dL_run_347 ?_
                        refine lv_goto (tgt := 352) hx hb dL_run_348 (by decide) ?_
                        revert hP; revert hD; revert hS; revert hl
                        subst ex330_14
                        subst ex293_13
                        subst ex256_12
                        subst ex219_11
                        subst ex193_10
                        subst ex171_9
                        subst ex143_8
                        subst ex115_7
                        subst ex89_6
                        subst ex78_5
                        subst ex67_4
                        subst ex56_3
                        subst ex46_2
                        subst eg18_1
                        intro hl hS hD hP
                        simp only [j352_0_L_run, if_neg c_340] at J352
                        exact J352 _ (lv_sub hl [0, 1, 2, 3, 4, 5, 6, 7, 8] rfl)
                    refine lv_if_eq (tgt := 323) hx hb dL_run_316 (by decide) (fun c_316 => ?_) (fun c_316 => ?_)
                    · refine lv_aload_n hx hb dL_run_323 rfl (lv_at hl 1 rfl) ?_
                      refine lv_iload hx hb dL_run_324 (lv_at hl 7 rfl) ?_
                      refine lv_iconst (v := 4) hx hb dL_run_326 (by decide) ?_
                      refine lv_iadd hx hb dL_run_327 ?_
                      refine ag_ild (k := (t / 144 % 10 * 6) + 4) (v := (upd ri (t / 144 % 10 * 6) x193_10) ((t / 144 % 10 * 6) + 4)) hx hb hK hP 1 rfl ((congrArg (· + (4 : Int32)) rfl).trans (nI_add _ 4)) (by have := Nat.mod_lt (t / 144) (show 0 < 10 by decide); omega) (Nat.le_of_ble_eq_true rfl) (Eq.trans (pk_un (by omega)) (Eq.trans (pk_un (by omega)) (Eq.trans (pk_un (by omega)) rfl))) dL_run_328 ?_
                      revert hP; revert hD; revert hS; revert hl
                      subst ex293_13
                      subst ex256_12
                      subst ex219_11
                      subst ex193_10
                      subst ex171_9
                      subst ex143_8
                      subst ex115_7
                      subst ex89_6
                      subst ex78_5
                      subst ex67_4
                      subst ex56_3
                      subst ex46_2
                      subst eg18_1
                      intro hl hS hD hP
                      simp only [j329_0_L_run, if_pos c_316] at J329
                      exact J329 _ (lv_sub hl [0, 1, 2, 3, 4, 5, 6, 7, 8] rfl)
                    · refine lv_iconst (v := 0) hx hb dL_run_319 (by decide) ?_
                      refine lv_goto (tgt := 329) hx hb dL_run_320 (by decide) ?_
                      revert hP; revert hD; revert hS; revert hl
                      subst ex293_13
                      subst ex256_12
                      subst ex219_11
                      subst ex193_10
                      subst ex171_9
                      subst ex143_8
                      subst ex115_7
                      subst ex89_6
                      subst ex78_5
                      subst ex67_4
                      subst ex56_3
                      subst ex46_2
                      subst eg18_1
                      intro hl hS hD hP
                      simp only [j329_0_L_run, if_neg c_316] at J329
                      exact J329 _ (lv_sub hl [0, 1, 2, 3, 4, 5, 6, 7, 8] rfl)
                  refine lv_if_le (tgt := 313) hx hb dL_run_303 (by decide) (fun c_303 => ?_) (fun c_303 => ?_)
                  · refine lv_iconst (v := 0) hx hb dL_run_313 (by decide) ?_
                    revert hP; revert hD; revert hS; revert hl
                    subst ex293_13
                    subst ex256_12
                    subst ex219_11
                    subst ex193_10
                    subst ex171_9
                    subst ex143_8
                    subst ex115_7
                    subst ex89_6
                    subst ex78_5
                    subst ex67_4
                    subst ex56_3
                    subst ex46_2
                    subst eg18_1
                    intro hl hS hD hP
                    simp only [j314_0_L_run, if_pos c_303] at J314
                    exact J314 _ (lv_sub hl [0, 1, 2, 3, 4, 5, 6, 7, 8] rfl)
                  · refine lv_aload hx hb dL_run_306 (lv_at hl 4 rfl) ?_
                    refine lv_iconst (v := 3) hx hb dL_run_308 (by decide) ?_
                    refine ag_ild (k := 3) (v := g18_1 3) hx hb hK hP 3 rfl rfl (Nat.le_of_ble_eq_true rfl) (Nat.le_of_ble_eq_true rfl) rfl dL_run_309 ?_
                    refine lv_goto (tgt := 314) hx hb dL_run_310 (by decide) ?_
                    revert hP; revert hD; revert hS; revert hl
                    subst ex293_13
                    subst ex256_12
                    subst ex219_11
                    subst ex193_10
                    subst ex171_9
                    subst ex143_8
                    subst ex115_7
                    subst ex89_6
                    subst ex78_5
                    subst ex67_4
                    subst ex56_3
                    subst ex46_2
                    subst eg18_1
                    intro hl hS hD hP
                    simp only [j314_0_L_run, if_neg c_303] at J314
                    exact J314 _ (lv_sub hl [0, 1, 2, 3, 4, 5, 6, 7, 8] rfl)
                refine lv_if_ne (tgt := 280) hx hb dL_run_264 (by decide) (fun c_264 => ?_) (fun c_264 => ?_)
                · refine lv_aload_n hx hb dL_run_280 rfl (lv_at hl 0 rfl) ?_
                  refine ag_callSi (As := [.ref ag]) (rest := [.int ((nI (t / 144 % 10 * 6)) + 3), .ref ar]) hx hb hml hown hG hK hN hA hP hD hS hl (ct_L_level l D cI cC cL ag (upd (upd (upd (upd (upd (upd (upd gi 0 x46_2) 1 x56_3) 2 x67_4) 11 x78_5) 12 x89_6) (ix1 ((gv18_1_L_run gi wi) 3)) x115_7) (ix2 ((gv18_1_L_run gi wi) 6)) x143_8)) fL_level k_390 (ag_cut_1 [] [aI cI ar 60 (upd (upd (upd ri (t / 144 % 10 * 6) x193_10) ((t / 144 % 10 * 6) + 1) x219_11) ((t / 144 % 10 * 6) + 2) x256_12), aI cI ad 10 (upd di (t / 144 % 10) x171_9), aI cI q2 7 g18_1] rfl) rfl (Nat.le_of_ble_eq_true rfl) ⟨Nat.le_of_ble_eq_true rfl, Nat.le_of_ble_eq_true rfl⟩ ⟨Nat.le_of_ble_eq_true rfl, Nat.le_of_ble_eq_true rfl⟩ dL_run_281 (fun r w1 H locs hw hP hD hS => ?_)
                  obtain ⟨rfl, hw⟩ := hw
                  subst hw
                  have hP : va_P D vwCl [aI cI ag 18 (upd (upd (upd (upd (upd (upd (upd gi 0 x46_2) 1 x56_3) 2 x67_4) 11 x78_5) 12 x89_6) (ix1 ((gv18_1_L_run gi wi) 3)) x115_7) (ix2 ((gv18_1_L_run gi wi) 6)) x143_8), aI cI ar 60 (upd (upd (upd ri (t / 144 % 10 * 6) x193_10) ((t / 144 % 10 * 6) + 1) x219_11) ((t / 144 % 10 * 6) + 2) x256_12), aI cI ad 10 (upd di (t / 144 % 10) x171_9), aI cI q2 7 g18_1] H := hP
                  have hD : va_D A [aI cI ag 18 (upd (upd (upd (upd (upd (upd (upd gi 0 x46_2) 1 x56_3) 2 x67_4) 11 x78_5) 12 x89_6) (ix1 ((gv18_1_L_run gi wi) 3)) x115_7) (ix2 ((gv18_1_L_run gi wi) 6)) x143_8), aI cI ar 60 (upd (upd (upd ri (t / 144 % 10 * 6) x193_10) ((t / 144 % 10 * 6) + 1) x219_11) ((t / 144 % 10 * 6) + 2) x256_12), aI cI ad 10 (upd di (t / 144 % 10) x171_9), aI cI q2 7 g18_1] := hD
                  refine lv_goto (tgt := 293) hx hb dL_run_284 (by decide) ?_
                  revert hP; revert hD; revert hS; revert hl
                  subst ex256_12
                  subst ex219_11
                  subst ex193_10
                  subst ex171_9
                  subst ex143_8
                  subst ex115_7
                  subst ex89_6
                  subst ex78_5
                  subst ex67_4
                  subst ex56_3
                  subst ex46_2
                  subst eg18_1
                  intro hl hS hD hP
                  simp only [j293_0_L_run, if_neg c_264] at J293
                  exact J293 H locs hP hD hS _ (lv_sub hl [0, 1, 2, 3, 4, 5, 6, 7, 8] rfl)
                · refine lv_aload_n hx hb dL_run_267 rfl (lv_at hl 0 rfl) ?_
                  refine ag_callSi (As := [.ref ag]) (rest := [.int ((nI (t / 144 % 10 * 6)) + 3), .ref ar]) hx hb hml hown hG hK hN hA hP hD hS hl (ct_L_level l D cI cC cL ag (upd (upd (upd (upd (upd (upd (upd gi 0 x46_2) 1 x56_3) 2 x67_4) 11 x78_5) 12 x89_6) (ix1 ((gv18_1_L_run gi wi) 3)) x115_7) (ix2 ((gv18_1_L_run gi wi) 6)) x143_8)) fL_level k_390 (ag_cut_1 [] [aI cI ar 60 (upd (upd (upd ri (t / 144 % 10 * 6) x193_10) ((t / 144 % 10 * 6) + 1) x219_11) ((t / 144 % 10 * 6) + 2) x256_12), aI cI ad 10 (upd di (t / 144 % 10) x171_9), aI cI q2 7 g18_1] rfl) rfl (Nat.le_of_ble_eq_true rfl) ⟨Nat.le_of_ble_eq_true rfl, Nat.le_of_ble_eq_true rfl⟩ ⟨Nat.le_of_ble_eq_true rfl, Nat.le_of_ble_eq_true rfl⟩ dL_run_268 (fun r w1 H locs hw hP hD hS => ?_)
                  obtain ⟨rfl, hw⟩ := hw
                  subst hw
                  have hP : va_P D vwCl [aI cI ag 18 (upd (upd (upd (upd (upd (upd (upd gi 0 x46_2) 1 x56_3) 2 x67_4) 11 x78_5) 12 x89_6) (ix1 ((gv18_1_L_run gi wi) 3)) x115_7) (ix2 ((gv18_1_L_run gi wi) 6)) x143_8), aI cI ar 60 (upd (upd (upd ri (t / 144 % 10 * 6) x193_10) ((t / 144 % 10 * 6) + 1) x219_11) ((t / 144 % 10 * 6) + 2) x256_12), aI cI ad 10 (upd di (t / 144 % 10) x171_9), aI cI q2 7 g18_1] H := hP
                  have hD : va_D A [aI cI ag 18 (upd (upd (upd (upd (upd (upd (upd gi 0 x46_2) 1 x56_3) 2 x67_4) 11 x78_5) 12 x89_6) (ix1 ((gv18_1_L_run gi wi) 3)) x115_7) (ix2 ((gv18_1_L_run gi wi) 6)) x143_8), aI cI ar 60 (upd (upd (upd ri (t / 144 % 10 * 6) x193_10) ((t / 144 % 10 * 6) + 1) x219_11) ((t / 144 % 10 * 6) + 2) x256_12), aI cI ad 10 (upd di (t / 144 % 10) x171_9), aI cI q2 7 g18_1] := hD
                  refine lv_aload_n hx hb dL_run_271 rfl (lv_at hl 1 rfl) ?_
                  refine lv_iload hx hb dL_run_272 (lv_at hl 7 rfl) ?_
                  refine lv_iconst (v := 3) hx hb dL_run_274 (by decide) ?_
                  refine lv_iadd hx hb dL_run_275 ?_
                  refine ag_ild (k := (t / 144 % 10 * 6) + 3) (v := (upd ri (t / 144 % 10 * 6) x193_10) ((t / 144 % 10 * 6) + 3)) hx hb hK hP 1 rfl ((congrArg (· + (3 : Int32)) rfl).trans (nI_add _ 3)) (by have := Nat.mod_lt (t / 144) (show 0 < 10 by decide); omega) (Nat.le_of_ble_eq_true rfl) (Eq.trans (pk_un (by omega)) (Eq.trans (pk_un (by omega)) rfl)) dL_run_276 ?_
                  refine lv_icmp_ge (tgt := 287) hx hb dL_run_277 (by decide) (fun c_277 => ?_) (fun c_277 => ?_)
                  · refine lv_aload_n hx hb dL_run_287 rfl (lv_at hl 1 rfl) ?_
                    refine lv_iload hx hb dL_run_288 (lv_at hl 7 rfl) ?_
                    refine lv_iconst (v := 3) hx hb dL_run_290 (by decide) ?_
                    refine lv_iadd hx hb dL_run_291 ?_
                    refine ag_ild (k := (t / 144 % 10 * 6) + 3) (v := (upd ri (t / 144 % 10 * 6) x193_10) ((t / 144 % 10 * 6) + 3)) hx hb hK hP 1 rfl ((congrArg (· + (3 : Int32)) rfl).trans (nI_add _ 3)) (by have := Nat.mod_lt (t / 144) (show 0 < 10 by decide); omega) (Nat.le_of_ble_eq_true rfl) (Eq.trans (pk_un (by omega)) (Eq.trans (pk_un (by omega)) rfl)) dL_run_292 ?_
                    revert hP; revert hD; revert hS; revert hl
                    subst ex256_12
                    subst ex219_11
                    subst ex193_10
                    subst ex171_9
                    subst ex143_8
                    subst ex115_7
                    subst ex89_6
                    subst ex78_5
                    subst ex67_4
                    subst ex56_3
                    subst ex46_2
                    subst eg18_1
                    intro hl hS hD hP
                    simp only [j293_0_L_run, if_pos c_264, if_pos c_277] at J293
                    exact J293 H locs hP hD hS _ (lv_sub hl [0, 1, 2, 3, 4, 5, 6, 7, 8] rfl)
                  · refine lv_aload_n hx hb dL_run_280 rfl (lv_at hl 0 rfl) ?_
                    refine ag_callSi (As := [.ref ag]) (rest := [.int ((nI (t / 144 % 10 * 6)) + 3), .ref ar]) hx hb hml hown hG hK hN hA hP hD hS hl (ct_L_level l D cI cC cL ag (upd (upd (upd (upd (upd (upd (upd gi 0 x46_2) 1 x56_3) 2 x67_4) 11 x78_5) 12 x89_6) (ix1 ((gv18_1_L_run gi wi) 3)) x115_7) (ix2 ((gv18_1_L_run gi wi) 6)) x143_8)) fL_level k_390 (ag_cut_1 [] [aI cI ar 60 (upd (upd (upd ri (t / 144 % 10 * 6) x193_10) ((t / 144 % 10 * 6) + 1) x219_11) ((t / 144 % 10 * 6) + 2) x256_12), aI cI ad 10 (upd di (t / 144 % 10) x171_9), aI cI q2 7 g18_1] rfl) rfl (Nat.le_of_ble_eq_true rfl) ⟨Nat.le_of_ble_eq_true rfl, Nat.le_of_ble_eq_true rfl⟩ ⟨Nat.le_of_ble_eq_true rfl, Nat.le_of_ble_eq_true rfl⟩ dL_run_281 (fun r w1 H locs hw hP hD hS => ?_)
                    obtain ⟨rfl, hw⟩ := hw
                    subst hw
                    have hP : va_P D vwCl [aI cI ag 18 (upd (upd (upd (upd (upd (upd (upd gi 0 x46_2) 1 x56_3) 2 x67_4) 11 x78_5) 12 x89_6) (ix1 ((gv18_1_L_run gi wi) 3)) x115_7) (ix2 ((gv18_1_L_run gi wi) 6)) x143_8), aI cI ar 60 (upd (upd (upd ri (t / 144 % 10 * 6) x193_10) ((t / 144 % 10 * 6) + 1) x219_11) ((t / 144 % 10 * 6) + 2) x256_12), aI cI ad 10 (upd di (t / 144 % 10) x171_9), aI cI q2 7 g18_1] H := hP
                    have hD : va_D A [aI cI ag 18 (upd (upd (upd (upd (upd (upd (upd gi 0 x46_2) 1 x56_3) 2 x67_4) 11 x78_5) 12 x89_6) (ix1 ((gv18_1_L_run gi wi) 3)) x115_7) (ix2 ((gv18_1_L_run gi wi) 6)) x143_8), aI cI ar 60 (upd (upd (upd ri (t / 144 % 10 * 6) x193_10) ((t / 144 % 10 * 6) + 1) x219_11) ((t / 144 % 10 * 6) + 2) x256_12), aI cI ad 10 (upd di (t / 144 % 10) x171_9), aI cI q2 7 g18_1] := hD
                    refine lv_goto (tgt := 293) hx hb dL_run_284 (by decide) ?_
                    revert hP; revert hD; revert hS; revert hl
                    subst ex256_12
                    subst ex219_11
                    subst ex193_10
                    subst ex171_9
                    subst ex143_8
                    subst ex115_7
                    subst ex89_6
                    subst ex78_5
                    subst ex67_4
                    subst ex56_3
                    subst ex46_2
                    subst eg18_1
                    intro hl hS hD hP
                    simp only [j293_0_L_run, if_pos c_264, if_neg c_277] at J293
                    exact J293 H locs hP hD hS _ (lv_sub hl [0, 1, 2, 3, 4, 5, 6, 7, 8] rfl)
              refine lv_if_ne (tgt := 243) hx hb dL_run_227 (by decide) (fun c_227 => ?_) (fun c_227 => ?_)
              · refine lv_aload_n hx hb dL_run_243 rfl (lv_at hl 0 rfl) ?_
                refine ag_callSi (As := [.ref ag]) (rest := [.int ((nI (t / 144 % 10 * 6)) + 2), .ref ar]) hx hb hml hown hG hK hN hA hP hD hS hl (ct_L_level l D cI cC cL ag (upd (upd (upd (upd (upd (upd (upd gi 0 x46_2) 1 x56_3) 2 x67_4) 11 x78_5) 12 x89_6) (ix1 ((gv18_1_L_run gi wi) 3)) x115_7) (ix2 ((gv18_1_L_run gi wi) 6)) x143_8)) fL_level k_390 (ag_cut_1 [] [aI cI ar 60 (upd (upd ri (t / 144 % 10 * 6) x193_10) ((t / 144 % 10 * 6) + 1) x219_11), aI cI ad 10 (upd di (t / 144 % 10) x171_9), aI cI q2 7 g18_1] rfl) rfl (Nat.le_of_ble_eq_true rfl) ⟨Nat.le_of_ble_eq_true rfl, Nat.le_of_ble_eq_true rfl⟩ ⟨Nat.le_of_ble_eq_true rfl, Nat.le_of_ble_eq_true rfl⟩ dL_run_244 (fun r w1 H locs hw hP hD hS => ?_)
                obtain ⟨rfl, hw⟩ := hw
                subst hw
                have hP : va_P D vwCl [aI cI ag 18 (upd (upd (upd (upd (upd (upd (upd gi 0 x46_2) 1 x56_3) 2 x67_4) 11 x78_5) 12 x89_6) (ix1 ((gv18_1_L_run gi wi) 3)) x115_7) (ix2 ((gv18_1_L_run gi wi) 6)) x143_8), aI cI ar 60 (upd (upd ri (t / 144 % 10 * 6) x193_10) ((t / 144 % 10 * 6) + 1) x219_11), aI cI ad 10 (upd di (t / 144 % 10) x171_9), aI cI q2 7 g18_1] H := hP
                have hD : va_D A [aI cI ag 18 (upd (upd (upd (upd (upd (upd (upd gi 0 x46_2) 1 x56_3) 2 x67_4) 11 x78_5) 12 x89_6) (ix1 ((gv18_1_L_run gi wi) 3)) x115_7) (ix2 ((gv18_1_L_run gi wi) 6)) x143_8), aI cI ar 60 (upd (upd ri (t / 144 % 10 * 6) x193_10) ((t / 144 % 10 * 6) + 1) x219_11), aI cI ad 10 (upd di (t / 144 % 10) x171_9), aI cI q2 7 g18_1] := hD
                refine lv_goto (tgt := 256) hx hb dL_run_247 (by decide) ?_
                revert hP; revert hD; revert hS; revert hl
                subst ex219_11
                subst ex193_10
                subst ex171_9
                subst ex143_8
                subst ex115_7
                subst ex89_6
                subst ex78_5
                subst ex67_4
                subst ex56_3
                subst ex46_2
                subst eg18_1
                intro hl hS hD hP
                simp only [j256_0_L_run, if_neg c_227] at J256
                exact J256 H locs hP hD hS _ (lv_sub hl [0, 1, 2, 3, 4, 5, 6, 7, 8] rfl)
              · refine lv_aload_n hx hb dL_run_230 rfl (lv_at hl 0 rfl) ?_
                refine ag_callSi (As := [.ref ag]) (rest := [.int ((nI (t / 144 % 10 * 6)) + 2), .ref ar]) hx hb hml hown hG hK hN hA hP hD hS hl (ct_L_level l D cI cC cL ag (upd (upd (upd (upd (upd (upd (upd gi 0 x46_2) 1 x56_3) 2 x67_4) 11 x78_5) 12 x89_6) (ix1 ((gv18_1_L_run gi wi) 3)) x115_7) (ix2 ((gv18_1_L_run gi wi) 6)) x143_8)) fL_level k_390 (ag_cut_1 [] [aI cI ar 60 (upd (upd ri (t / 144 % 10 * 6) x193_10) ((t / 144 % 10 * 6) + 1) x219_11), aI cI ad 10 (upd di (t / 144 % 10) x171_9), aI cI q2 7 g18_1] rfl) rfl (Nat.le_of_ble_eq_true rfl) ⟨Nat.le_of_ble_eq_true rfl, Nat.le_of_ble_eq_true rfl⟩ ⟨Nat.le_of_ble_eq_true rfl, Nat.le_of_ble_eq_true rfl⟩ dL_run_231 (fun r w1 H locs hw hP hD hS => ?_)
                obtain ⟨rfl, hw⟩ := hw
                subst hw
                have hP : va_P D vwCl [aI cI ag 18 (upd (upd (upd (upd (upd (upd (upd gi 0 x46_2) 1 x56_3) 2 x67_4) 11 x78_5) 12 x89_6) (ix1 ((gv18_1_L_run gi wi) 3)) x115_7) (ix2 ((gv18_1_L_run gi wi) 6)) x143_8), aI cI ar 60 (upd (upd ri (t / 144 % 10 * 6) x193_10) ((t / 144 % 10 * 6) + 1) x219_11), aI cI ad 10 (upd di (t / 144 % 10) x171_9), aI cI q2 7 g18_1] H := hP
                have hD : va_D A [aI cI ag 18 (upd (upd (upd (upd (upd (upd (upd gi 0 x46_2) 1 x56_3) 2 x67_4) 11 x78_5) 12 x89_6) (ix1 ((gv18_1_L_run gi wi) 3)) x115_7) (ix2 ((gv18_1_L_run gi wi) 6)) x143_8), aI cI ar 60 (upd (upd ri (t / 144 % 10 * 6) x193_10) ((t / 144 % 10 * 6) + 1) x219_11), aI cI ad 10 (upd di (t / 144 % 10) x171_9), aI cI q2 7 g18_1] := hD
                refine lv_aload_n hx hb dL_run_234 rfl (lv_at hl 1 rfl) ?_
                refine lv_iload hx hb dL_run_235 (lv_at hl 7 rfl) ?_
                refine lv_iconst (v := 2) hx hb dL_run_237 (by decide) ?_
                refine lv_iadd hx hb dL_run_238 ?_
                refine ag_ild (k := (t / 144 % 10 * 6) + 2) (v := (upd ri (t / 144 % 10 * 6) x193_10) ((t / 144 % 10 * 6) + 2)) hx hb hK hP 1 rfl ((congrArg (· + (2 : Int32)) rfl).trans (nI_add _ 2)) (by have := Nat.mod_lt (t / 144) (show 0 < 10 by decide); omega) (Nat.le_of_ble_eq_true rfl) (Eq.trans (pk_un (by omega)) rfl) dL_run_239 ?_
                refine lv_icmp_le (tgt := 250) hx hb dL_run_240 (by decide) (fun c_240 => ?_) (fun c_240 => ?_)
                · refine lv_aload_n hx hb dL_run_250 rfl (lv_at hl 1 rfl) ?_
                  refine lv_iload hx hb dL_run_251 (lv_at hl 7 rfl) ?_
                  refine lv_iconst (v := 2) hx hb dL_run_253 (by decide) ?_
                  refine lv_iadd hx hb dL_run_254 ?_
                  refine ag_ild (k := (t / 144 % 10 * 6) + 2) (v := (upd ri (t / 144 % 10 * 6) x193_10) ((t / 144 % 10 * 6) + 2)) hx hb hK hP 1 rfl ((congrArg (· + (2 : Int32)) rfl).trans (nI_add _ 2)) (by have := Nat.mod_lt (t / 144) (show 0 < 10 by decide); omega) (Nat.le_of_ble_eq_true rfl) (Eq.trans (pk_un (by omega)) rfl) dL_run_255 ?_
                  revert hP; revert hD; revert hS; revert hl
                  subst ex219_11
                  subst ex193_10
                  subst ex171_9
                  subst ex143_8
                  subst ex115_7
                  subst ex89_6
                  subst ex78_5
                  subst ex67_4
                  subst ex56_3
                  subst ex46_2
                  subst eg18_1
                  intro hl hS hD hP
                  simp only [j256_0_L_run, if_pos c_227, if_pos c_240] at J256
                  exact J256 H locs hP hD hS _ (lv_sub hl [0, 1, 2, 3, 4, 5, 6, 7, 8] rfl)
                · refine lv_aload_n hx hb dL_run_243 rfl (lv_at hl 0 rfl) ?_
                  refine ag_callSi (As := [.ref ag]) (rest := [.int ((nI (t / 144 % 10 * 6)) + 2), .ref ar]) hx hb hml hown hG hK hN hA hP hD hS hl (ct_L_level l D cI cC cL ag (upd (upd (upd (upd (upd (upd (upd gi 0 x46_2) 1 x56_3) 2 x67_4) 11 x78_5) 12 x89_6) (ix1 ((gv18_1_L_run gi wi) 3)) x115_7) (ix2 ((gv18_1_L_run gi wi) 6)) x143_8)) fL_level k_390 (ag_cut_1 [] [aI cI ar 60 (upd (upd ri (t / 144 % 10 * 6) x193_10) ((t / 144 % 10 * 6) + 1) x219_11), aI cI ad 10 (upd di (t / 144 % 10) x171_9), aI cI q2 7 g18_1] rfl) rfl (Nat.le_of_ble_eq_true rfl) ⟨Nat.le_of_ble_eq_true rfl, Nat.le_of_ble_eq_true rfl⟩ ⟨Nat.le_of_ble_eq_true rfl, Nat.le_of_ble_eq_true rfl⟩ dL_run_244 (fun r w1 H locs hw hP hD hS => ?_)
                  obtain ⟨rfl, hw⟩ := hw
                  subst hw
                  have hP : va_P D vwCl [aI cI ag 18 (upd (upd (upd (upd (upd (upd (upd gi 0 x46_2) 1 x56_3) 2 x67_4) 11 x78_5) 12 x89_6) (ix1 ((gv18_1_L_run gi wi) 3)) x115_7) (ix2 ((gv18_1_L_run gi wi) 6)) x143_8), aI cI ar 60 (upd (upd ri (t / 144 % 10 * 6) x193_10) ((t / 144 % 10 * 6) + 1) x219_11), aI cI ad 10 (upd di (t / 144 % 10) x171_9), aI cI q2 7 g18_1] H := hP
                  have hD : va_D A [aI cI ag 18 (upd (upd (upd (upd (upd (upd (upd gi 0 x46_2) 1 x56_3) 2 x67_4) 11 x78_5) 12 x89_6) (ix1 ((gv18_1_L_run gi wi) 3)) x115_7) (ix2 ((gv18_1_L_run gi wi) 6)) x143_8), aI cI ar 60 (upd (upd ri (t / 144 % 10 * 6) x193_10) ((t / 144 % 10 * 6) + 1) x219_11), aI cI ad 10 (upd di (t / 144 % 10) x171_9), aI cI q2 7 g18_1] := hD
                  refine lv_goto (tgt := 256) hx hb dL_run_247 (by decide) ?_
                  revert hP; revert hD; revert hS; revert hl
                  subst ex219_11
                  subst ex193_10
                  subst ex171_9
                  subst ex143_8
                  subst ex115_7
                  subst ex89_6
                  subst ex78_5
                  subst ex67_4
                  subst ex56_3
                  subst ex46_2
                  subst eg18_1
                  intro hl hS hD hP
                  simp only [j256_0_L_run, if_pos c_227, if_neg c_240] at J256
                  exact J256 H locs hP hD hS _ (lv_sub hl [0, 1, 2, 3, 4, 5, 6, 7, 8] rfl)
            refine lv_if_eq (tgt := 212) hx hb dL_run_205 (by decide) (fun c_205 => ?_) (fun c_205 => ?_)
            · refine lv_aload_n hx hb dL_run_212 rfl (lv_at hl 1 rfl) ?_
              refine lv_iload hx hb dL_run_213 (lv_at hl 7 rfl) ?_
              refine lv_iconst (v := 1) hx hb dL_run_215 (by decide) ?_
              refine lv_iadd hx hb dL_run_216 ?_
              refine ag_ild (k := (t / 144 % 10 * 6) + 1) (v := (upd ri (t / 144 % 10 * 6) x193_10) ((t / 144 % 10 * 6) + 1)) hx hb hK hP 1 rfl ((congrArg (· + (1 : Int32)) rfl).trans (nI_add _ 1)) (by have := Nat.mod_lt (t / 144) (show 0 < 10 by decide); omega) (Nat.le_of_ble_eq_true rfl) rfl dL_run_217 ?_
              revert hP; revert hD; revert hS; revert hl
              subst ex193_10
              subst ex171_9
              subst ex143_8
              subst ex115_7
              subst ex89_6
              subst ex78_5
              subst ex67_4
              subst ex56_3
              subst ex46_2
              subst eg18_1
              intro hl hS hD hP
              simp only [j218_0_L_run, if_pos c_205] at J218
              exact J218 _ (lv_sub hl [0, 1, 2, 3, 4, 5, 6, 7, 8] rfl)
            · refine lv_iconst (v := 0) hx hb dL_run_208 (by decide) ?_
              refine lv_goto (tgt := 218) hx hb dL_run_209 (by decide) ?_
              revert hP; revert hD; revert hS; revert hl
              subst ex193_10
              subst ex171_9
              subst ex143_8
              subst ex115_7
              subst ex89_6
              subst ex78_5
              subst ex67_4
              subst ex56_3
              subst ex46_2
              subst eg18_1
              intro hl hS hD hP
              simp only [j218_0_L_run, if_neg c_205] at J218
              exact J218 _ (lv_sub hl [0, 1, 2, 3, 4, 5, 6, 7, 8] rfl)
          refine lv_if_eq (tgt := 188) hx hb dL_run_181 (by decide) (fun c_181 => ?_) (fun c_181 => ?_)
          · refine lv_aload_n hx hb dL_run_188 rfl (lv_at hl 2 rfl) ?_
            refine lv_iload hx hb dL_run_189 (lv_at hl 8 rfl) ?_
            refine ag_ild (k := t / 144 % 10 * 6) (v := ri (t / 144 % 10 * 6)) hx hb hK hP 1 rfl rfl (by have := Nat.mod_lt (t / 144) (show 0 < 10 by decide); omega) (Nat.le_of_ble_eq_true rfl) rfl dL_run_191 ?_
            revert hP; revert hD; revert hS; revert hl
            subst ex171_9
            subst ex143_8
            subst ex115_7
            subst ex89_6
            subst ex78_5
            subst ex67_4
            subst ex56_3
            subst ex46_2
            subst eg18_1
            intro hl hS hD hP
            simp only [j192_0_L_run, if_pos c_181] at J192
            exact J192 _ (lv_sub hl [1, 2, 3, 4, 5, 6, 7, 8, 0] rfl)
          · refine lv_iconst (v := 0) hx hb dL_run_184 (by decide) ?_
            refine lv_goto (tgt := 192) hx hb dL_run_185 (by decide) ?_
            revert hP; revert hD; revert hS; revert hl
            subst ex171_9
            subst ex143_8
            subst ex115_7
            subst ex89_6
            subst ex78_5
            subst ex67_4
            subst ex56_3
            subst ex46_2
            subst eg18_1
            intro hl hS hD hP
            simp only [j192_0_L_run, if_neg c_181] at J192
            exact J192 _ (lv_sub hl [1, 2, 3, 4, 5, 6, 7, 8, 0] rfl)
        refine lv_icmp_eq (tgt := 160) hx hb dL_run_153 (by decide) (fun c_153 => ?_) (fun c_153 => ?_)
        · refine lv_iconst (v := 0) hx hb dL_run_160 (by decide) ?_
          revert hP; revert hD; revert hS; revert hl
          subst ex143_8
          subst ex115_7
          subst ex89_6
          subst ex78_5
          subst ex67_4
          subst ex56_3
          subst ex46_2
          subst eg18_1
          intro hl hS hD hP
          simp only [j161_0_L_run, if_pos c_153] at J161
          exact J161 _ (lv_sub hl [0, 1, 2, 3, 4, 5, 6, 7] rfl)
        · refine lv_iconst (v := 1) hx hb dL_run_156 (by decide) ?_
          refine lv_goto (tgt := 161) hx hb dL_run_157 (by decide) ?_
          revert hP; revert hD; revert hS; revert hl
          subst ex143_8
          subst ex115_7
          subst ex89_6
          subst ex78_5
          subst ex67_4
          subst ex56_3
          subst ex46_2
          subst eg18_1
          intro hl hS hD hP
          simp only [j161_0_L_run, if_neg c_153] at J161
          exact J161 _ (lv_sub hl [0, 1, 2, 3, 4, 5, 6, 7] rfl)
      refine lv_if_le (tgt := 130) hx hb dL_run_122 (by decide) (fun c_122 => ?_) (fun c_122 => ?_)
      · refine lv_bipush (v := 17) hx hb dL_run_130 (by decide) ?_
        revert hP; revert hD; revert hS; revert hl
        subst ex115_7
        subst ex89_6
        subst ex78_5
        subst ex67_4
        subst ex56_3
        subst ex46_2
        subst eg18_1
        intro hl hS hD hP
        simp only [j132_0_L_run, if_pos c_122] at J132
        exact J132 _ (lv_sub hl [0, 1, 2, 3, 4, 5, 6, 7] rfl)
      · refine lv_bipush (v := 16) hx hb dL_run_125 (by decide) ?_
        refine lv_goto (tgt := 132) hx hb dL_run_127 (by decide) ?_
        revert hP; revert hD; revert hS; revert hl
        subst ex115_7
        subst ex89_6
        subst ex78_5
        subst ex67_4
        subst ex56_3
        subst ex46_2
        subst eg18_1
        intro hl hS hD hP
        simp only [j132_0_L_run, if_neg c_122] at J132
        exact J132 _ (lv_sub hl [0, 1, 2, 3, 4, 5, 6, 7] rfl)
    refine lv_if_le (tgt := 103) hx hb dL_run_95 (by decide) (fun c_95 => ?_) (fun c_95 => ?_)
    · refine lv_bipush (v := 14) hx hb dL_run_103 (by decide) ?_
      revert hP; revert hD; revert hS; revert hl
      subst ex89_6
      subst ex78_5
      subst ex67_4
      subst ex56_3
      subst ex46_2
      subst eg18_1
      intro hl hS hD hP
      simp only [j105_0_L_run, if_pos c_95] at J105
      exact J105 _ (lv_sub hl [2, 3, 4, 5, 6, 7, 1, 0] rfl)
    · refine lv_bipush (v := 13) hx hb dL_run_98 (by decide) ?_
      refine lv_goto (tgt := 105) hx hb dL_run_100 (by decide) ?_
      revert hP; revert hD; revert hS; revert hl
      subst ex89_6
      subst ex78_5
      subst ex67_4
      subst ex56_3
      subst ex46_2
      subst eg18_1
      intro hl hS hD hP
      simp only [j105_0_L_run, if_neg c_95] at J105
      exact J105 _ (lv_sub hl [2, 3, 4, 5, 6, 7, 1, 0] rfl)
