/-! the class itself: changes -/
def gv15_1_X5_settle (hf : Nat → Int32) : Nat → Int32 := hk_k hf
def gv15_2_X5_settle (hf : Nat → Int32) (f : Nat → Int32) (sf : Nat → Nat → Int32) : Nat → Nat → Int32 := va_up sf (rox (hf 0 + hf 1)) f
def gv15_3_X5_settle (hf : Nat → Int32) (se : Nat → Int32) (sse : Nat → Nat → Int32) : Nat → Nat → Int32 := va_up sse (rox (hf 0 + hf 1)) se
def gv15_4_X5_settle (hf : Nat → Int32) (to : Nat → Int32) (sto : Nat → Nat → Int32) : Nat → Nat → Int32 := va_up sto (rox (hf 0 + hf 1)) to
def gv15_5_X5_settle (hf : Nat → Int32) (re : Nat → Int32) (sre : Nat → Nat → Int32) : Nat → Nat → Int32 := va_up sre (rox (hf 0 + hf 1)) re
def sr_X5_settle (p1 : Int32) : Int32 := p1
def fw_sf_X5_settle (hf : Nat → Int32) (f : Nat → Int32) (p1 : Int32) (sf : Nat → Nat → Int32) : Nat → Nat → Int32 := if (sr_X5_isError p1) = 0 then (gv15_2_X5_settle hf f sf) else sf
def fw_sse_X5_settle (hf : Nat → Int32) (se : Nat → Int32) (p1 : Int32) (sse : Nat → Nat → Int32) : Nat → Nat → Int32 := if (sr_X5_isError p1) = 0 then (gv15_3_X5_settle hf se sse) else sse
def fw_sto_X5_settle (hf : Nat → Int32) (to : Nat → Int32) (p1 : Int32) (sto : Nat → Nat → Int32) : Nat → Nat → Int32 := if (sr_X5_isError p1) = 0 then (gv15_4_X5_settle hf to sto) else sto
def fw_sre_X5_settle (hf : Nat → Int32) (re : Nat → Int32) (p1 : Int32) (sre : Nat → Nat → Int32) : Nat → Nat → Int32 := if (sr_X5_isError p1) = 0 then (gv15_5_X5_settle hf re sre) else sre
def sw1_X5_settle (hf : Nat → Int32) (p1 : Int32) : Nat → Int32 := if (sr_X5_isError p1) = 0 then (gv15_1_X5_settle hf) else hf
def sw19_X5_settle (f : Nat → Int32) (of : Nat → Int32) (p1 : Int32) : Nat → Int32 := if (sr_X5_isError p1) = 0 then of else f
def sw20_X5_settle (se : Nat → Int32) (ose : Nat → Int32) (p1 : Int32) : Nat → Int32 := if (sr_X5_isError p1) = 0 then ose else se
def sw21_X5_settle (to : Nat → Int32) (oto : Nat → Int32) (p1 : Int32) : Nat → Int32 := if (sr_X5_isError p1) = 0 then oto else to
def sw22_X5_settle (re : Nat → Int32) (ore : Nat → Int32) (p1 : Int32) : Nat → Int32 := if (sr_X5_isError p1) = 0 then ore else re
abbrev po_X5_settle (cI cC cL : ClassId) (x0 h o t1 x1 y1 z1 x2 s0 s01 s02 s03 s1 s11 s12 s13 s2 s21 s22 s23 s3 s31 s32 s33 h1 h2 h3 y2 o1 o2 o3 : Nat) (hf f se to re pf tf ch of ose oto ore kf : Nat → Int32) (p1 : Int32) (sf : Nat → Nat → Int32) (sse : Nat → Nat → Int32) (sto : Nat → Nat → Int32) (sre : Nat → Nat → Int32) : Int32 → va_W → Prop := fun r w' => sr_X5_settle p1 = r ∧ [oX x0 h o t1 x1 y1 z1, oH x1 x2 (sw1_X5_settle hf p1), aL cL x2 (gS s0 s1 s2 s3), oL s0 s01 s02 s03 (fw_sf_X5_settle hf f p1 sf 0), aI cI s01 3 (fw_sse_X5_settle hf se p1 sse 0), aI cI s02 7 (fw_sto_X5_settle hf to p1 sto 0), aI cI s03 60 (fw_sre_X5_settle hf re p1 sre 0), oL s1 s11 s12 s13 (fw_sf_X5_settle hf f p1 sf 1), aI cI s11 3 (fw_sse_X5_settle hf se p1 sse 1), aI cI s12 7 (fw_sto_X5_settle hf to p1 sto 1), aI cI s13 60 (fw_sre_X5_settle hf re p1 sre 1), oL s2 s21 s22 s23 (fw_sf_X5_settle hf f p1 sf 2), aI cI s21 3 (fw_sse_X5_settle hf se p1 sse 2), aI cI s22 7 (fw_sto_X5_settle hf to p1 sto 2), aI cI s23 60 (fw_sre_X5_settle hf re p1 sre 2), oL s3 s31 s32 s33 (fw_sf_X5_settle hf f p1 sf 3), aI cI s31 3 (fw_sse_X5_settle hf se p1 sse 3), aI cI s32 7 (fw_sto_X5_settle hf to p1 sto 3), aI cI s33 60 (fw_sre_X5_settle hf re p1 sre 3), oL h h1 h2 h3 (sw19_X5_settle f of p1), aI cI h1 3 (sw20_X5_settle se ose p1), aI cI h2 7 (sw21_X5_settle to oto p1), aI cI h3 60 (sw22_X5_settle re ore p1), oP z1 pf, oT y1 y2 tf, aC cC y2 60 ch, oL o o1 o2 o3 of, aI cI o1 3 ose, aI cI o2 7 oto, aI cI o3 60 ore, oK t1 kf] = w'
set_option maxHeartbeats 4000000 in
set_option maxRecDepth 100000 in
theorem ct_X5_settle (l : Launch) (D : va_G) (cI cC cL : ClassId) (x0 h o t1 x1 y1 z1 x2 s0 s01 s02 s03 s1 s11 s12 s13 s2 s21 s22 s23 s3 s31 s32 s33 h1 h2 h3 y2 o1 o2 o3 : Nat) (hf f se to re pf tf ch of ose oto ore kf : Nat → Int32) (p1 : Int32) (sf : Nat → Nat → Int32) (sse : Nat → Nat → Int32) (sto : Nat → Nat → Int32) (sre : Nat → Nat → Int32) : ag_MI l yX5_settle cX5_settle 2 .int 3 72 D cI cC cL [.ref x0, .int p1] [oX x0 h o t1 x1 y1 z1, oH x1 x2 hf, aL cL x2 (gS s0 s1 s2 s3), oL s0 s01 s02 s03 (sf 0), aI cI s01 3 (sse 0), aI cI s02 7 (sto 0), aI cI s03 60 (sre 0), oL s1 s11 s12 s13 (sf 1), aI cI s11 3 (sse 1), aI cI s12 7 (sto 1), aI cI s13 60 (sre 1), oL s2 s21 s22 s23 (sf 2), aI cI s21 3 (sse 2), aI cI s22 7 (sto 2), aI cI s23 60 (sre 2), oL s3 s31 s32 s33 (sf 3), aI cI s31 3 (sse 3), aI cI s32 7 (sto 3), aI cI s33 60 (sre 3), oL h h1 h2 h3 f, aI cI h1 3 se, aI cI h2 7 to, aI cI h3 60 re, oP z1 pf, oT y1 y2 tf, aC cC y2 60 ch, oL o o1 o2 o3 of, aI cI o1 3 ose, aI cI o2 7 oto, aI cI o3 60 ore, oK t1 kf] (po_X5_settle cI cC cL x0 h o t1 x1 y1 z1 x2 s0 s01 s02 s03 s1 s11 s12 s13 s2 s21 s22 s23 s3 s31 s32 s33 h1 h2 h3 y2 o1 o2 o3 hf f se to re pf tf ch of ose oto ore kf p1 sf sse sto sre) := by
  refine ag_MI.of (plainFor_of_name (by decide)) (Nat.le_of_ble_eq_true rfl) ?_
  intro p e s m below meth c hx hb hr hlocks hml hown hmn hG hK A hN hA H locs hP hD hS ls hl
  have hl : lv_has ls 2 [(0, .ref x0), (1, .int p1)] := hl
  refine lv_iload_n hx hb dX5_settle_0 rfl (lv_at hl 1 rfl) ?_
  refine ag_callSi (As := [.int p1]) (rest := []) hx hb hml hown hG hK hN hA hP hD hS hl (ct_X5_isError l D cI cC cL p1) fX5_isError k_271 ag_cut_0 rfl (Nat.le_of_ble_eq_true rfl) ⟨Nat.le_of_ble_eq_true rfl, Nat.le_of_ble_eq_true rfl⟩ ⟨Nat.zero_le _, Nat.zero_le _⟩ dX5_settle_1 (fun r w1 H locs hw hP hD hS => ?_)
  obtain ⟨rfl, hw⟩ := hw
  subst hw
  have hP : va_P D vwCl [oX x0 h o t1 x1 y1 z1, oH x1 x2 hf, aL cL x2 (gS s0 s1 s2 s3), oL s0 s01 s02 s03 (sf 0), aI cI s01 3 (sse 0), aI cI s02 7 (sto 0), aI cI s03 60 (sre 0), oL s1 s11 s12 s13 (sf 1), aI cI s11 3 (sse 1), aI cI s12 7 (sto 1), aI cI s13 60 (sre 1), oL s2 s21 s22 s23 (sf 2), aI cI s21 3 (sse 2), aI cI s22 7 (sto 2), aI cI s23 60 (sre 2), oL s3 s31 s32 s33 (sf 3), aI cI s31 3 (sse 3), aI cI s32 7 (sto 3), aI cI s33 60 (sre 3), oL h h1 h2 h3 f, aI cI h1 3 se, aI cI h2 7 to, aI cI h3 60 re, oP z1 pf, oT y1 y2 tf, aC cC y2 60 ch, oL o o1 o2 o3 of, aI cI o1 3 ose, aI cI o2 7 oto, aI cI o3 60 ore, oK t1 kf] H := hP
  have hD : va_D A [oX x0 h o t1 x1 y1 z1, oH x1 x2 hf, aL cL x2 (gS s0 s1 s2 s3), oL s0 s01 s02 s03 (sf 0), aI cI s01 3 (sse 0), aI cI s02 7 (sto 0), aI cI s03 60 (sre 0), oL s1 s11 s12 s13 (sf 1), aI cI s11 3 (sse 1), aI cI s12 7 (sto 1), aI cI s13 60 (sre 1), oL s2 s21 s22 s23 (sf 2), aI cI s21 3 (sse 2), aI cI s22 7 (sto 2), aI cI s23 60 (sre 2), oL s3 s31 s32 s33 (sf 3), aI cI s31 3 (sse 3), aI cI s32 7 (sto 3), aI cI s33 60 (sre 3), oL h h1 h2 h3 f, aI cI h1 3 se, aI cI h2 7 to, aI cI h3 60 re, oP z1 pf, oT y1 y2 tf, aC cC y2 60 ch, oL o o1 o2 o3 of, aI cI o1 3 ose, aI cI o2 7 oto, aI cI o3 60 ore, oK t1 kf] := hD
  refine lv_if_ne (tgt := 29) hx hb dX5_settle_4 (by decide) (fun c_4 => ?_) (fun c_4 => ?_)
  · refine lv_iload_n hx hb dX5_settle_29 rfl (lv_at hl 1 rfl) ?_
    exact ag_iret [x0, x1, x2, s0, s01, s02, s03, s1, s11, s12, s13, s2, s21, s22, s23, s3, s31, s32, s33, h, h1, h2, h3, z1, y1, y2, o, o1, o2, o3, t1] hx hb hr rfl hlocks hP hS rfl rfl ⟨rfl, (by show _ = _; rw [show fw_sf_X5_settle hf f p1 sf = sf from (by unfold fw_sf_X5_settle; rw [if_neg c_4]), show fw_sse_X5_settle hf se p1 sse = sse from (by unfold fw_sse_X5_settle; rw [if_neg c_4]), show fw_sto_X5_settle hf to p1 sto = sto from (by unfold fw_sto_X5_settle; rw [if_neg c_4]), show fw_sre_X5_settle hf re p1 sre = sre from (by unfold fw_sre_X5_settle; rw [if_neg c_4]), show sw1_X5_settle hf p1 = hf from (by unfold sw1_X5_settle; rw [if_neg c_4]), show sw19_X5_settle f of p1 = f from (by unfold sw19_X5_settle; rw [if_neg c_4]), show sw20_X5_settle se ose p1 = se from (by unfold sw20_X5_settle; rw [if_neg c_4]), show sw21_X5_settle to oto p1 = to from (by unfold sw21_X5_settle; rw [if_neg c_4]), show sw22_X5_settle re ore p1 = re from (by unfold sw22_X5_settle; rw [if_neg c_4])])⟩ dX5_settle_30
  · refine lv_aload_n hx hb dX5_settle_7 rfl (lv_at hl 0 rfl) ?_
    refine ag_getX5 (v := .ref x1) hx hb hG hown hK hP 0 3 rfl (by decide) k_179 rfl dX5_settle_8 ?_
    refine lv_aload_n hx hb dX5_settle_11 rfl (lv_at hl 0 rfl) ?_
    refine ag_getX5 (v := .ref h) hx hb hG hown hK hP 0 0 rfl (by decide) k_176 rfl dX5_settle_12 ?_
    refine ag_callVv (As := [.ref h]) (rest := []) hx hb hml hown hG hK hN hA hP hD hS hl (ct_X0_keep l D cI cC cL x1 h x2 s0 s01 s02 s03 s1 s11 s12 s13 s2 s21 s22 s23 s3 s31 s32 s33 h1 h2 h3 hf f se to re sf sse sto sre) fX0_keep k_274 (ag_cut_1 [oX x0 h o t1 x1 y1 z1] [oP z1 pf, oT y1 y2 tf, aC cC y2 60 ch, oL o o1 o2 o3 of, aI cI o1 3 ose, aI cI o2 7 oto, aI cI o3 60 ore, oK t1 kf] rfl) (q0 := 1) rfl rfl rfl rfl (Nat.le_of_ble_eq_true rfl) ⟨Nat.le_of_ble_eq_true rfl, Nat.le_of_ble_eq_true rfl⟩ ⟨Nat.zero_le _, Nat.zero_le _⟩ dX5_settle_15 (fun w1 H locs hw hP hD hS => ?_)
    have hw : _ = w1 := hw
    generalize eg15_1 : hk_k hf = g15_1 at hw
    replace eg15_1 : gv15_1_X5_settle hf = g15_1 := (by rw [← eg15_1]; rfl)
    generalize eg15_2 : va_up sf (rox (hf 0 + hf 1)) f = g15_2 at hw
    replace eg15_2 : gv15_2_X5_settle hf f sf = g15_2 := (by rw [← eg15_2]; rfl)
    generalize eg15_3 : va_up sse (rox (hf 0 + hf 1)) se = g15_3 at hw
    replace eg15_3 : gv15_3_X5_settle hf se sse = g15_3 := (by rw [← eg15_3]; rfl)
    generalize eg15_4 : va_up sto (rox (hf 0 + hf 1)) to = g15_4 at hw
    replace eg15_4 : gv15_4_X5_settle hf to sto = g15_4 := (by rw [← eg15_4]; rfl)
    generalize eg15_5 : va_up sre (rox (hf 0 + hf 1)) re = g15_5 at hw
    replace eg15_5 : gv15_5_X5_settle hf re sre = g15_5 := (by rw [← eg15_5]; rfl)
    subst hw
    have hP : va_P D vwCl [oX x0 h o t1 x1 y1 z1, oH x1 x2 g15_1, aL cL x2 (gS s0 s1 s2 s3), oL s0 s01 s02 s03 (g15_2 0), aI cI s01 3 (g15_3 0), aI cI s02 7 (g15_4 0), aI cI s03 60 (g15_5 0), oL s1 s11 s12 s13 (g15_2 1), aI cI s11 3 (g15_3 1), aI cI s12 7 (g15_4 1), aI cI s13 60 (g15_5 1), oL s2 s21 s22 s23 (g15_2 2), aI cI s21 3 (g15_3 2), aI cI s22 7 (g15_4 2), aI cI s23 60 (g15_5 2), oL s3 s31 s32 s33 (g15_2 3), aI cI s31 3 (g15_3 3), aI cI s32 7 (g15_4 3), aI cI s33 60 (g15_5 3), oL h h1 h2 h3 f, aI cI h1 3 se, aI cI h2 7 to, aI cI h3 60 re, oP z1 pf, oT y1 y2 tf, aC cC y2 60 ch, oL o o1 o2 o3 of, aI cI o1 3 ose, aI cI o2 7 oto, aI cI o3 60 ore, oK t1 kf] H := hP
    have hD : va_D A [oX x0 h o t1 x1 y1 z1, oH x1 x2 g15_1, aL cL x2 (gS s0 s1 s2 s3), oL s0 s01 s02 s03 (g15_2 0), aI cI s01 3 (g15_3 0), aI cI s02 7 (g15_4 0), aI cI s03 60 (g15_5 0), oL s1 s11 s12 s13 (g15_2 1), aI cI s11 3 (g15_3 1), aI cI s12 7 (g15_4 1), aI cI s13 60 (g15_5 1), oL s2 s21 s22 s23 (g15_2 2), aI cI s21 3 (g15_3 2), aI cI s22 7 (g15_4 2), aI cI s23 60 (g15_5 2), oL s3 s31 s32 s33 (g15_2 3), aI cI s31 3 (g15_3 3), aI cI s32 7 (g15_4 3), aI cI s33 60 (g15_5 3), oL h h1 h2 h3 f, aI cI h1 3 se, aI cI h2 7 to, aI cI h3 60 re, oP z1 pf, oT y1 y2 tf, aC cC y2 60 ch, oL o o1 o2 o3 of, aI cI o1 3 ose, aI cI o2 7 oto, aI cI o3 60 ore, oK t1 kf] := hD
    refine lv_aload_n hx hb dX5_settle_18 rfl (lv_at hl 0 rfl) ?_
    refine ag_getX5 (v := .ref h) hx hb hG hown hK hP 0 0 rfl (by decide) k_176 rfl dX5_settle_19 ?_
    refine lv_aload_n hx hb dX5_settle_22 rfl (lv_at hl 0 rfl) ?_
    refine ag_getX5 (v := .ref o) hx hb hG hown hK hP 0 1 rfl (by decide) k_177 rfl dX5_settle_23 ?_
    refine ag_callVv (As := [.ref o]) (rest := []) hx hb hml hown hG hK hN hA hP hD hS hl (ct_X1_copyFrom l D cI cC cL h o h1 h2 h3 o1 o2 o3 f se to re of ose oto ore) fX1_copyFrom k_255 (ag_cut_2 4 [oX x0 h o t1 x1 y1 z1, oH x1 x2 g15_1, aL cL x2 (gS s0 s1 s2 s3), oL s0 s01 s02 s03 (g15_2 0), aI cI s01 3 (g15_3 0), aI cI s02 7 (g15_4 0), aI cI s03 60 (g15_5 0), oL s1 s11 s12 s13 (g15_2 1), aI cI s11 3 (g15_3 1), aI cI s12 7 (g15_4 1), aI cI s13 60 (g15_5 1), oL s2 s21 s22 s23 (g15_2 2), aI cI s21 3 (g15_3 2), aI cI s22 7 (g15_4 2), aI cI s23 60 (g15_5 2), oL s3 s31 s32 s33 (g15_2 3), aI cI s31 3 (g15_3 3), aI cI s32 7 (g15_4 3), aI cI s33 60 (g15_5 3)] [oL h h1 h2 h3 f, aI cI h1 3 se, aI cI h2 7 to, aI cI h3 60 re] [oP z1 pf, oT y1 y2 tf, aC cC y2 60 ch] [oL o o1 o2 o3 of, aI cI o1 3 ose, aI cI o2 7 oto, aI cI o3 60 ore] [oK t1 kf] rfl rfl rfl) (q0 := 19) rfl rfl rfl rfl (Nat.le_of_ble_eq_true rfl) ⟨Nat.le_of_ble_eq_true rfl, Nat.le_of_ble_eq_true rfl⟩ ⟨Nat.zero_le _, Nat.zero_le _⟩ dX5_settle_26 (fun w1 H locs hw hP hD hS => ?_)
    have hw : _ = w1 := hw
    subst hw
    have hP : va_P D vwCl [oX x0 h o t1 x1 y1 z1, oH x1 x2 g15_1, aL cL x2 (gS s0 s1 s2 s3), oL s0 s01 s02 s03 (g15_2 0), aI cI s01 3 (g15_3 0), aI cI s02 7 (g15_4 0), aI cI s03 60 (g15_5 0), oL s1 s11 s12 s13 (g15_2 1), aI cI s11 3 (g15_3 1), aI cI s12 7 (g15_4 1), aI cI s13 60 (g15_5 1), oL s2 s21 s22 s23 (g15_2 2), aI cI s21 3 (g15_3 2), aI cI s22 7 (g15_4 2), aI cI s23 60 (g15_5 2), oL s3 s31 s32 s33 (g15_2 3), aI cI s31 3 (g15_3 3), aI cI s32 7 (g15_4 3), aI cI s33 60 (g15_5 3), oL h h1 h2 h3 of, aI cI h1 3 ose, aI cI h2 7 oto, aI cI h3 60 ore, oP z1 pf, oT y1 y2 tf, aC cC y2 60 ch, oL o o1 o2 o3 of, aI cI o1 3 ose, aI cI o2 7 oto, aI cI o3 60 ore, oK t1 kf] H := hP
    have hD : va_D A [oX x0 h o t1 x1 y1 z1, oH x1 x2 g15_1, aL cL x2 (gS s0 s1 s2 s3), oL s0 s01 s02 s03 (g15_2 0), aI cI s01 3 (g15_3 0), aI cI s02 7 (g15_4 0), aI cI s03 60 (g15_5 0), oL s1 s11 s12 s13 (g15_2 1), aI cI s11 3 (g15_3 1), aI cI s12 7 (g15_4 1), aI cI s13 60 (g15_5 1), oL s2 s21 s22 s23 (g15_2 2), aI cI s21 3 (g15_3 2), aI cI s22 7 (g15_4 2), aI cI s23 60 (g15_5 2), oL s3 s31 s32 s33 (g15_2 3), aI cI s31 3 (g15_3 3), aI cI s32 7 (g15_4 3), aI cI s33 60 (g15_5 3), oL h h1 h2 h3 of, aI cI h1 3 ose, aI cI h2 7 oto, aI cI h3 60 ore, oP z1 pf, oT y1 y2 tf, aC cC y2 60 ch, oL o o1 o2 o3 of, aI cI o1 3 ose, aI cI o2 7 oto, aI cI o3 60 ore, oK t1 kf] := hD
    refine lv_iload_n hx hb dX5_settle_29 rfl (lv_at hl 1 rfl) ?_
    revert hP; revert hD; revert hS; revert hl
    subst eg15_5
    subst eg15_4
    subst eg15_3
    subst eg15_2
    subst eg15_1
    intro hl hS hD hP
    exact ag_iret [x0, x1, x2, s0, s01, s02, s03, s1, s11, s12, s13, s2, s21, s22, s23, s3, s31, s32, s33, h, h1, h2, h3, z1, y1, y2, o, o1, o2, o3, t1] hx hb hr rfl hlocks hP hS rfl rfl ⟨rfl, (by show _ = _; rw [show fw_sf_X5_settle hf f p1 sf = (gv15_2_X5_settle hf f sf) from (by unfold fw_sf_X5_settle; rw [if_pos c_4]), show fw_sse_X5_settle hf se p1 sse = (gv15_3_X5_settle hf se sse) from (by unfold fw_sse_X5_settle; rw [if_pos c_4]), show fw_sto_X5_settle hf to p1 sto = (gv15_4_X5_settle hf to sto) from (by unfold fw_sto_X5_settle; rw [if_pos c_4]), show fw_sre_X5_settle hf re p1 sre = (gv15_5_X5_settle hf re sre) from (by unfold fw_sre_X5_settle; rw [if_pos c_4]), show sw1_X5_settle hf p1 = (gv15_1_X5_settle hf) from (by unfold sw1_X5_settle; rw [if_pos c_4]), show sw19_X5_settle f of p1 = of from (by unfold sw19_X5_settle; rw [if_pos c_4]), show sw20_X5_settle se ose p1 = ose from (by unfold sw20_X5_settle; rw [if_pos c_4]), show sw21_X5_settle to oto p1 = oto from (by unfold sw21_X5_settle; rw [if_pos c_4]), show sw22_X5_settle re ore p1 = ore from (by unfold sw22_X5_settle; rw [if_pos c_4])])⟩ dX5_settle_30
def gv17_1_X5_gates (f : Nat → Int32) (p1 : Int32) : Nat → Int32 := sw0_X1_openGates f p1
def gv20_2_X5_gates (hf : Nat → Int32) (f : Nat → Int32) (p1 : Int32) : Nat → Int32 := sw1_X5_settle hf (sr_X1_openGates f p1)
def gv20_3_X5_gates (hf : Nat → Int32) (f : Nat → Int32) (p1 : Int32) (sf : Nat → Nat → Int32) : Nat → Nat → Int32 := fw_sf_X5_settle hf f (sr_X1_openGates f p1) sf
def gv20_4_X5_gates (hf : Nat → Int32) (f : Nat → Int32) (se : Nat → Int32) (p1 : Int32) (sse : Nat → Nat → Int32) : Nat → Nat → Int32 := fw_sse_X5_settle hf se (sr_X1_openGates f p1) sse
def gv20_5_X5_gates (hf : Nat → Int32) (f : Nat → Int32) (to : Nat → Int32) (p1 : Int32) (sto : Nat → Nat → Int32) : Nat → Nat → Int32 := fw_sto_X5_settle hf to (sr_X1_openGates f p1) sto
def gv20_6_X5_gates (hf : Nat → Int32) (f : Nat → Int32) (re : Nat → Int32) (p1 : Int32) (sre : Nat → Nat → Int32) : Nat → Nat → Int32 := fw_sre_X5_settle hf re (sr_X1_openGates f p1) sre
def gv20_7_X5_gates (f : Nat → Int32) (p1 : Int32) : Nat → Int32 := sw19_X5_settle f (gv17_1_X5_gates f p1) (sr_X1_openGates f p1)
def gv20_8_X5_gates (f : Nat → Int32) (se : Nat → Int32) (p1 : Int32) : Nat → Int32 := sw20_X5_settle se se (sr_X1_openGates f p1)
def gv20_9_X5_gates (f : Nat → Int32) (to : Nat → Int32) (p1 : Int32) : Nat → Int32 := sw21_X5_settle to to (sr_X1_openGates f p1)
def gv20_10_X5_gates (f : Nat → Int32) (re : Nat → Int32) (p1 : Int32) : Nat → Int32 := sw22_X5_settle re re (sr_X1_openGates f p1)
def sr_X5_gates (f : Nat → Int32) (p1 : Int32) : Int32 := sr_X5_settle (sr_X1_openGates f p1)
def fw_sf_X5_gates (hf : Nat → Int32) (f : Nat → Int32) (p1 : Int32) (sf : Nat → Nat → Int32) : Nat → Nat → Int32 := (gv20_3_X5_gates hf f p1 sf)
def fw_sse_X5_gates (hf : Nat → Int32) (f : Nat → Int32) (se : Nat → Int32) (p1 : Int32) (sse : Nat → Nat → Int32) : Nat → Nat → Int32 := (gv20_4_X5_gates hf f se p1 sse)
def fw_sto_X5_gates (hf : Nat → Int32) (f : Nat → Int32) (to : Nat → Int32) (p1 : Int32) (sto : Nat → Nat → Int32) : Nat → Nat → Int32 := (gv20_5_X5_gates hf f to p1 sto)
def fw_sre_X5_gates (hf : Nat → Int32) (f : Nat → Int32) (re : Nat → Int32) (p1 : Int32) (sre : Nat → Nat → Int32) : Nat → Nat → Int32 := (gv20_6_X5_gates hf f re p1 sre)
def sw1_X5_gates (hf : Nat → Int32) (f : Nat → Int32) (p1 : Int32) : Nat → Int32 := (gv20_2_X5_gates hf f p1)
def sw19_X5_gates (f : Nat → Int32) (p1 : Int32) : Nat → Int32 := (gv20_7_X5_gates f p1)
def sw20_X5_gates (f : Nat → Int32) (se : Nat → Int32) (p1 : Int32) : Nat → Int32 := (gv20_8_X5_gates f se p1)
def sw21_X5_gates (f : Nat → Int32) (to : Nat → Int32) (p1 : Int32) : Nat → Int32 := (gv20_9_X5_gates f to p1)
def sw22_X5_gates (f : Nat → Int32) (re : Nat → Int32) (p1 : Int32) : Nat → Int32 := (gv20_10_X5_gates f re p1)
def sw26_X5_gates (f : Nat → Int32) (p1 : Int32) : Nat → Int32 := (gv17_1_X5_gates f p1)
def sw27_X5_gates (se : Nat → Int32) : Nat → Int32 := se
def sw28_X5_gates (to : Nat → Int32) : Nat → Int32 := to
def sw29_X5_gates (re : Nat → Int32) : Nat → Int32 := re
abbrev po_X5_gates (cI cC cL : ClassId) (x0 h o t1 x1 y1 z1 x2 s0 s01 s02 s03 s1 s11 s12 s13 s2 s21 s22 s23 s3 s31 s32 s33 h1 h2 h3 y2 o1 o2 o3 : Nat) (hf f se to re pf tf ch of ose oto ore kf : Nat → Int32) (p1 : Int32) (sf : Nat → Nat → Int32) (sse : Nat → Nat → Int32) (sto : Nat → Nat → Int32) (sre : Nat → Nat → Int32) : Int32 → va_W → Prop := fun r w' => sr_X5_gates f p1 = r ∧ [oX x0 h o t1 x1 y1 z1, oH x1 x2 (sw1_X5_gates hf f p1), aL cL x2 (gS s0 s1 s2 s3), oL s0 s01 s02 s03 (fw_sf_X5_gates hf f p1 sf 0), aI cI s01 3 (fw_sse_X5_gates hf f se p1 sse 0), aI cI s02 7 (fw_sto_X5_gates hf f to p1 sto 0), aI cI s03 60 (fw_sre_X5_gates hf f re p1 sre 0), oL s1 s11 s12 s13 (fw_sf_X5_gates hf f p1 sf 1), aI cI s11 3 (fw_sse_X5_gates hf f se p1 sse 1), aI cI s12 7 (fw_sto_X5_gates hf f to p1 sto 1), aI cI s13 60 (fw_sre_X5_gates hf f re p1 sre 1), oL s2 s21 s22 s23 (fw_sf_X5_gates hf f p1 sf 2), aI cI s21 3 (fw_sse_X5_gates hf f se p1 sse 2), aI cI s22 7 (fw_sto_X5_gates hf f to p1 sto 2), aI cI s23 60 (fw_sre_X5_gates hf f re p1 sre 2), oL s3 s31 s32 s33 (fw_sf_X5_gates hf f p1 sf 3), aI cI s31 3 (fw_sse_X5_gates hf f se p1 sse 3), aI cI s32 7 (fw_sto_X5_gates hf f to p1 sto 3), aI cI s33 60 (fw_sre_X5_gates hf f re p1 sre 3), oL h h1 h2 h3 (sw19_X5_gates f p1), aI cI h1 3 (sw20_X5_gates f se p1), aI cI h2 7 (sw21_X5_gates f to p1), aI cI h3 60 (sw22_X5_gates f re p1), oP z1 pf, oT y1 y2 tf, aC cC y2 60 ch, oL o o1 o2 o3 (sw26_X5_gates f p1), aI cI o1 3 (sw27_X5_gates se), aI cI o2 7 (sw28_X5_gates to), aI cI o3 60 (sw29_X5_gates re), oK t1 kf] = w'
set_option maxHeartbeats 4000000 in
set_option maxRecDepth 100000 in
theorem ct_X5_gates (l : Launch) (D : va_G) (cI cC cL : ClassId) (x0 h o t1 x1 y1 z1 x2 s0 s01 s02 s03 s1 s11 s12 s13 s2 s21 s22 s23 s3 s31 s32 s33 h1 h2 h3 y2 o1 o2 o3 : Nat) (hf f se to re pf tf ch of ose oto ore kf : Nat → Int32) (p1 : Int32) (sf : Nat → Nat → Int32) (sse : Nat → Nat → Int32) (sto : Nat → Nat → Int32) (sre : Nat → Nat → Int32) : ag_MI l yX5_gates cX5_gates 2 .int 4 93 D cI cC cL [.ref x0, .int p1] [oX x0 h o t1 x1 y1 z1, oH x1 x2 hf, aL cL x2 (gS s0 s1 s2 s3), oL s0 s01 s02 s03 (sf 0), aI cI s01 3 (sse 0), aI cI s02 7 (sto 0), aI cI s03 60 (sre 0), oL s1 s11 s12 s13 (sf 1), aI cI s11 3 (sse 1), aI cI s12 7 (sto 1), aI cI s13 60 (sre 1), oL s2 s21 s22 s23 (sf 2), aI cI s21 3 (sse 2), aI cI s22 7 (sto 2), aI cI s23 60 (sre 2), oL s3 s31 s32 s33 (sf 3), aI cI s31 3 (sse 3), aI cI s32 7 (sto 3), aI cI s33 60 (sre 3), oL h h1 h2 h3 f, aI cI h1 3 se, aI cI h2 7 to, aI cI h3 60 re, oP z1 pf, oT y1 y2 tf, aC cC y2 60 ch, oL o o1 o2 o3 of, aI cI o1 3 ose, aI cI o2 7 oto, aI cI o3 60 ore, oK t1 kf] (po_X5_gates cI cC cL x0 h o t1 x1 y1 z1 x2 s0 s01 s02 s03 s1 s11 s12 s13 s2 s21 s22 s23 s3 s31 s32 s33 h1 h2 h3 y2 o1 o2 o3 hf f se to re pf tf ch of ose oto ore kf p1 sf sse sto sre) := by
  refine ag_MI.of (plainFor_of_name (by decide)) (Nat.le_of_ble_eq_true rfl) ?_
  intro p e s m below meth c hx hb hr hlocks hml hown hmn hG hK A hN hA H locs hP hD hS ls hl
  have hl : lv_has ls 2 [(0, .ref x0), (1, .int p1)] := hl
  refine lv_aload_n hx hb dX5_gates_0 rfl (lv_at hl 0 rfl) ?_
  refine ag_getX5 (v := .ref o) hx hb hG hown hK hP 0 1 rfl (by decide) k_177 rfl dX5_gates_1 ?_
  refine lv_aload_n hx hb dX5_gates_4 rfl (lv_at hl 0 rfl) ?_
  refine ag_getX5 (v := .ref h) hx hb hG hown hK hP 0 0 rfl (by decide) k_176 rfl dX5_gates_5 ?_
  refine ag_callVv (As := [.ref h]) (rest := []) hx hb hml hown hG hK hN hA hP hD hS hl (ct_X1_copyFrom l D cI cC cL o h o1 o2 o3 h1 h2 h3 of ose oto ore f se to re) fX1_copyFrom k_255 (ag_cut_2s 4 [oX x0 h o t1 x1 y1 z1, oH x1 x2 hf, aL cL x2 (gS s0 s1 s2 s3), oL s0 s01 s02 s03 (sf 0), aI cI s01 3 (sse 0), aI cI s02 7 (sto 0), aI cI s03 60 (sre 0), oL s1 s11 s12 s13 (sf 1), aI cI s11 3 (sse 1), aI cI s12 7 (sto 1), aI cI s13 60 (sre 1), oL s2 s21 s22 s23 (sf 2), aI cI s21 3 (sse 2), aI cI s22 7 (sto 2), aI cI s23 60 (sre 2), oL s3 s31 s32 s33 (sf 3), aI cI s31 3 (sse 3), aI cI s32 7 (sto 3), aI cI s33 60 (sre 3)] [oL o o1 o2 o3 of, aI cI o1 3 ose, aI cI o2 7 oto, aI cI o3 60 ore] [oP z1 pf, oT y1 y2 tf, aC cC y2 60 ch] [oL h h1 h2 h3 f, aI cI h1 3 se, aI cI h2 7 to, aI cI h3 60 re] [oK t1 kf] rfl rfl rfl) (q0 := 26) rfl rfl rfl rfl (Nat.le_of_ble_eq_true rfl) ⟨Nat.le_of_ble_eq_true rfl, Nat.le_of_ble_eq_true rfl⟩ ⟨Nat.zero_le _, Nat.zero_le _⟩ dX5_gates_8 (fun w1 H locs hw hP hD hS => ?_)
  have hw : _ = w1 := hw
  subst hw
  have hP : va_P D vwCl [oX x0 h o t1 x1 y1 z1, oH x1 x2 hf, aL cL x2 (gS s0 s1 s2 s3), oL s0 s01 s02 s03 (sf 0), aI cI s01 3 (sse 0), aI cI s02 7 (sto 0), aI cI s03 60 (sre 0), oL s1 s11 s12 s13 (sf 1), aI cI s11 3 (sse 1), aI cI s12 7 (sto 1), aI cI s13 60 (sre 1), oL s2 s21 s22 s23 (sf 2), aI cI s21 3 (sse 2), aI cI s22 7 (sto 2), aI cI s23 60 (sre 2), oL s3 s31 s32 s33 (sf 3), aI cI s31 3 (sse 3), aI cI s32 7 (sto 3), aI cI s33 60 (sre 3), oL h h1 h2 h3 f, aI cI h1 3 se, aI cI h2 7 to, aI cI h3 60 re, oP z1 pf, oT y1 y2 tf, aC cC y2 60 ch, oL o o1 o2 o3 f, aI cI o1 3 se, aI cI o2 7 to, aI cI o3 60 re, oK t1 kf] H := hP
  have hD : va_D A [oX x0 h o t1 x1 y1 z1, oH x1 x2 hf, aL cL x2 (gS s0 s1 s2 s3), oL s0 s01 s02 s03 (sf 0), aI cI s01 3 (sse 0), aI cI s02 7 (sto 0), aI cI s03 60 (sre 0), oL s1 s11 s12 s13 (sf 1), aI cI s11 3 (sse 1), aI cI s12 7 (sto 1), aI cI s13 60 (sre 1), oL s2 s21 s22 s23 (sf 2), aI cI s21 3 (sse 2), aI cI s22 7 (sto 2), aI cI s23 60 (sre 2), oL s3 s31 s32 s33 (sf 3), aI cI s31 3 (sse 3), aI cI s32 7 (sto 3), aI cI s33 60 (sre 3), oL h h1 h2 h3 f, aI cI h1 3 se, aI cI h2 7 to, aI cI h3 60 re, oP z1 pf, oT y1 y2 tf, aC cC y2 60 ch, oL o o1 o2 o3 f, aI cI o1 3 se, aI cI o2 7 to, aI cI o3 60 re, oK t1 kf] := hD
  refine lv_aload_n hx hb dX5_gates_11 rfl (lv_at hl 0 rfl) ?_
  refine lv_aload_n hx hb dX5_gates_12 rfl (lv_at hl 0 rfl) ?_
  refine ag_getX5 (v := .ref o) hx hb hG hown hK hP 0 1 rfl (by decide) k_177 rfl dX5_gates_13 ?_
  refine lv_iload_n hx hb dX5_gates_16 rfl (lv_at hl 1 rfl) ?_
  refine ag_callVi (As := [.int p1]) (rest := [.ref x0]) hx hb hml hown hG hK hN hA hP hD hS hl (ct_X1_openGates l D cI cC cL o o1 o2 o3 f se to re p1) fX1_openGates k_262 (ag_cut_1 [oX x0 h o t1 x1 y1 z1, oH x1 x2 hf, aL cL x2 (gS s0 s1 s2 s3), oL s0 s01 s02 s03 (sf 0), aI cI s01 3 (sse 0), aI cI s02 7 (sto 0), aI cI s03 60 (sre 0), oL s1 s11 s12 s13 (sf 1), aI cI s11 3 (sse 1), aI cI s12 7 (sto 1), aI cI s13 60 (sre 1), oL s2 s21 s22 s23 (sf 2), aI cI s21 3 (sse 2), aI cI s22 7 (sto 2), aI cI s23 60 (sre 2), oL s3 s31 s32 s33 (sf 3), aI cI s31 3 (sse 3), aI cI s32 7 (sto 3), aI cI s33 60 (sre 3), oL h h1 h2 h3 f, aI cI h1 3 se, aI cI h2 7 to, aI cI h3 60 re, oP z1 pf, oT y1 y2 tf, aC cC y2 60 ch] [oK t1 kf] rfl) (q0 := 26) rfl rfl rfl rfl (Nat.le_of_ble_eq_true rfl) ⟨Nat.le_of_ble_eq_true rfl, Nat.le_of_ble_eq_true rfl⟩ ⟨Nat.zero_le _, Nat.zero_le _⟩ dX5_gates_17 (fun r w1 H locs hw hP hD hS => ?_)
  obtain ⟨rfl, hw⟩ := hw
  generalize eg17_1 : sw0_X1_openGates f p1 = g17_1 at hw
  replace eg17_1 : gv17_1_X5_gates f p1 = g17_1 := (by rw [← eg17_1]; rfl)
  subst hw
  have hP : va_P D vwCl [oX x0 h o t1 x1 y1 z1, oH x1 x2 hf, aL cL x2 (gS s0 s1 s2 s3), oL s0 s01 s02 s03 (sf 0), aI cI s01 3 (sse 0), aI cI s02 7 (sto 0), aI cI s03 60 (sre 0), oL s1 s11 s12 s13 (sf 1), aI cI s11 3 (sse 1), aI cI s12 7 (sto 1), aI cI s13 60 (sre 1), oL s2 s21 s22 s23 (sf 2), aI cI s21 3 (sse 2), aI cI s22 7 (sto 2), aI cI s23 60 (sre 2), oL s3 s31 s32 s33 (sf 3), aI cI s31 3 (sse 3), aI cI s32 7 (sto 3), aI cI s33 60 (sre 3), oL h h1 h2 h3 f, aI cI h1 3 se, aI cI h2 7 to, aI cI h3 60 re, oP z1 pf, oT y1 y2 tf, aC cC y2 60 ch, oL o o1 o2 o3 g17_1, aI cI o1 3 se, aI cI o2 7 to, aI cI o3 60 re, oK t1 kf] H := hP
  have hD : va_D A [oX x0 h o t1 x1 y1 z1, oH x1 x2 hf, aL cL x2 (gS s0 s1 s2 s3), oL s0 s01 s02 s03 (sf 0), aI cI s01 3 (sse 0), aI cI s02 7 (sto 0), aI cI s03 60 (sre 0), oL s1 s11 s12 s13 (sf 1), aI cI s11 3 (sse 1), aI cI s12 7 (sto 1), aI cI s13 60 (sre 1), oL s2 s21 s22 s23 (sf 2), aI cI s21 3 (sse 2), aI cI s22 7 (sto 2), aI cI s23 60 (sre 2), oL s3 s31 s32 s33 (sf 3), aI cI s31 3 (sse 3), aI cI s32 7 (sto 3), aI cI s33 60 (sre 3), oL h h1 h2 h3 f, aI cI h1 3 se, aI cI h2 7 to, aI cI h3 60 re, oP z1 pf, oT y1 y2 tf, aC cC y2 60 ch, oL o o1 o2 o3 g17_1, aI cI o1 3 se, aI cI o2 7 to, aI cI o3 60 re, oK t1 kf] := hD
  refine ag_callVi (As := [.int (sr_X1_openGates f p1)]) (rest := []) hx hb hml hown hG hK hN hA hP hD hS hl (ct_X5_settle l D cI cC cL x0 h o t1 x1 y1 z1 x2 s0 s01 s02 s03 s1 s11 s12 s13 s2 s21 s22 s23 s3 s31 s32 s33 h1 h2 h3 y2 o1 o2 o3 hf f se to re pf tf ch g17_1 se to re kf (sr_X1_openGates f p1) sf sse sto sre) fX5_settle k_267 ag_cut_all (q0 := 0) rfl rfl rfl rfl (Nat.le_of_ble_eq_true rfl) ⟨Nat.le_of_ble_eq_true rfl, Nat.le_of_ble_eq_true rfl⟩ ⟨Nat.zero_le _, Nat.zero_le _⟩ dX5_gates_20 (fun r w1 H locs hw hP hD hS => ?_)
  obtain ⟨rfl, hw⟩ := hw
  generalize eg20_2 : sw1_X5_settle hf (sr_X1_openGates f p1) = g20_2 at hw
  replace eg20_2 : gv20_2_X5_gates hf f p1 = g20_2 := (by rw [← eg20_2]; rfl)
  generalize eg20_3 : fw_sf_X5_settle hf f (sr_X1_openGates f p1) sf = g20_3 at hw
  replace eg20_3 : gv20_3_X5_gates hf f p1 sf = g20_3 := (by rw [← eg20_3]; rfl)
  generalize eg20_4 : fw_sse_X5_settle hf se (sr_X1_openGates f p1) sse = g20_4 at hw
  replace eg20_4 : gv20_4_X5_gates hf f se p1 sse = g20_4 := (by rw [← eg20_4]; rfl)
  generalize eg20_5 : fw_sto_X5_settle hf to (sr_X1_openGates f p1) sto = g20_5 at hw
  replace eg20_5 : gv20_5_X5_gates hf f to p1 sto = g20_5 := (by rw [← eg20_5]; rfl)
  generalize eg20_6 : fw_sre_X5_settle hf re (sr_X1_openGates f p1) sre = g20_6 at hw
  replace eg20_6 : gv20_6_X5_gates hf f re p1 sre = g20_6 := (by rw [← eg20_6]; rfl)
  generalize eg20_7 : sw19_X5_settle f g17_1 (sr_X1_openGates f p1) = g20_7 at hw
  replace eg20_7 : gv20_7_X5_gates f p1 = g20_7 := (by rw [← eg20_7, ← eg17_1]; rfl)
  generalize eg20_8 : sw20_X5_settle se se (sr_X1_openGates f p1) = g20_8 at hw
  replace eg20_8 : gv20_8_X5_gates f se p1 = g20_8 := (by rw [← eg20_8]; rfl)
  generalize eg20_9 : sw21_X5_settle to to (sr_X1_openGates f p1) = g20_9 at hw
  replace eg20_9 : gv20_9_X5_gates f to p1 = g20_9 := (by rw [← eg20_9]; rfl)
  generalize eg20_10 : sw22_X5_settle re re (sr_X1_openGates f p1) = g20_10 at hw
  replace eg20_10 : gv20_10_X5_gates f re p1 = g20_10 := (by rw [← eg20_10]; rfl)
  subst hw
  have hP : va_P D vwCl [oX x0 h o t1 x1 y1 z1, oH x1 x2 g20_2, aL cL x2 (gS s0 s1 s2 s3), oL s0 s01 s02 s03 (g20_3 0), aI cI s01 3 (g20_4 0), aI cI s02 7 (g20_5 0), aI cI s03 60 (g20_6 0), oL s1 s11 s12 s13 (g20_3 1), aI cI s11 3 (g20_4 1), aI cI s12 7 (g20_5 1), aI cI s13 60 (g20_6 1), oL s2 s21 s22 s23 (g20_3 2), aI cI s21 3 (g20_4 2), aI cI s22 7 (g20_5 2), aI cI s23 60 (g20_6 2), oL s3 s31 s32 s33 (g20_3 3), aI cI s31 3 (g20_4 3), aI cI s32 7 (g20_5 3), aI cI s33 60 (g20_6 3), oL h h1 h2 h3 g20_7, aI cI h1 3 g20_8, aI cI h2 7 g20_9, aI cI h3 60 g20_10, oP z1 pf, oT y1 y2 tf, aC cC y2 60 ch, oL o o1 o2 o3 g17_1, aI cI o1 3 se, aI cI o2 7 to, aI cI o3 60 re, oK t1 kf] H := hP
  have hD : va_D A [oX x0 h o t1 x1 y1 z1, oH x1 x2 g20_2, aL cL x2 (gS s0 s1 s2 s3), oL s0 s01 s02 s03 (g20_3 0), aI cI s01 3 (g20_4 0), aI cI s02 7 (g20_5 0), aI cI s03 60 (g20_6 0), oL s1 s11 s12 s13 (g20_3 1), aI cI s11 3 (g20_4 1), aI cI s12 7 (g20_5 1), aI cI s13 60 (g20_6 1), oL s2 s21 s22 s23 (g20_3 2), aI cI s21 3 (g20_4 2), aI cI s22 7 (g20_5 2), aI cI s23 60 (g20_6 2), oL s3 s31 s32 s33 (g20_3 3), aI cI s31 3 (g20_4 3), aI cI s32 7 (g20_5 3), aI cI s33 60 (g20_6 3), oL h h1 h2 h3 g20_7, aI cI h1 3 g20_8, aI cI h2 7 g20_9, aI cI h3 60 g20_10, oP z1 pf, oT y1 y2 tf, aC cC y2 60 ch, oL o o1 o2 o3 g17_1, aI cI o1 3 se, aI cI o2 7 to, aI cI o3 60 re, oK t1 kf] := hD
  revert hP; revert hD; revert hS; revert hl
  subst eg20_10
  subst eg20_9
  subst eg20_8
  subst eg20_7
  subst eg20_6
  subst eg20_5
  subst eg20_4
  subst eg20_3
  subst eg20_2
  subst eg17_1
  intro hl hS hD hP
  exact ag_iret [x0, x1, x2, s0, s01, s02, s03, s1, s11, s12, s13, s2, s21, s22, s23, s3, s31, s32, s33, h, h1, h2, h3, z1, y1, y2, o, o1, o2, o3, t1] hx hb hr rfl hlocks hP hS rfl rfl ⟨rfl, (by show _ = _; rw [show fw_sf_X5_gates hf f p1 sf = (gv20_3_X5_gates hf f p1 sf) from rfl, show fw_sse_X5_gates hf f se p1 sse = (gv20_4_X5_gates hf f se p1 sse) from rfl, show fw_sto_X5_gates hf f to p1 sto = (gv20_5_X5_gates hf f to p1 sto) from rfl, show fw_sre_X5_gates hf f re p1 sre = (gv20_6_X5_gates hf f re p1 sre) from rfl, show sw1_X5_gates hf f p1 = (gv20_2_X5_gates hf f p1) from rfl, show sw19_X5_gates f p1 = (gv20_7_X5_gates f p1) from rfl, show sw20_X5_gates f se p1 = (gv20_8_X5_gates f se p1) from rfl, show sw21_X5_gates f to p1 = (gv20_9_X5_gates f to p1) from rfl, show sw22_X5_gates f re p1 = (gv20_10_X5_gates f re p1) from rfl, show sw26_X5_gates f p1 = (gv17_1_X5_gates f p1) from rfl, show sw27_X5_gates se = se from rfl, show sw28_X5_gates to = to from rfl, show sw29_X5_gates re = re from rfl])⟩ dX5_gates_23
def gv17_1_X5_turbines (f : Nat → Int32) (p1 : Int32) : Nat → Int32 := sw0_X1_openTurbines f p1
def gv20_2_X5_turbines (hf : Nat → Int32) (f : Nat → Int32) (p1 : Int32) : Nat → Int32 := sw1_X5_settle hf (sr_X1_openTurbines f p1)
def gv20_3_X5_turbines (hf : Nat → Int32) (f : Nat → Int32) (p1 : Int32) (sf : Nat → Nat → Int32) : Nat → Nat → Int32 := fw_sf_X5_settle hf f (sr_X1_openTurbines f p1) sf
def gv20_4_X5_turbines (hf : Nat → Int32) (f : Nat → Int32) (se : Nat → Int32) (p1 : Int32) (sse : Nat → Nat → Int32) : Nat → Nat → Int32 := fw_sse_X5_settle hf se (sr_X1_openTurbines f p1) sse
def gv20_5_X5_turbines (hf : Nat → Int32) (f : Nat → Int32) (to : Nat → Int32) (p1 : Int32) (sto : Nat → Nat → Int32) : Nat → Nat → Int32 := fw_sto_X5_settle hf to (sr_X1_openTurbines f p1) sto
def gv20_6_X5_turbines (hf : Nat → Int32) (f : Nat → Int32) (re : Nat → Int32) (p1 : Int32) (sre : Nat → Nat → Int32) : Nat → Nat → Int32 := fw_sre_X5_settle hf re (sr_X1_openTurbines f p1) sre
def gv20_7_X5_turbines (f : Nat → Int32) (p1 : Int32) : Nat → Int32 := sw19_X5_settle f (gv17_1_X5_turbines f p1) (sr_X1_openTurbines f p1)
def gv20_8_X5_turbines (f : Nat → Int32) (se : Nat → Int32) (p1 : Int32) : Nat → Int32 := sw20_X5_settle se se (sr_X1_openTurbines f p1)
def gv20_9_X5_turbines (f : Nat → Int32) (to : Nat → Int32) (p1 : Int32) : Nat → Int32 := sw21_X5_settle to to (sr_X1_openTurbines f p1)
def gv20_10_X5_turbines (f : Nat → Int32) (re : Nat → Int32) (p1 : Int32) : Nat → Int32 := sw22_X5_settle re re (sr_X1_openTurbines f p1)
def sr_X5_turbines (f : Nat → Int32) (p1 : Int32) : Int32 := sr_X5_settle (sr_X1_openTurbines f p1)
def fw_sf_X5_turbines (hf : Nat → Int32) (f : Nat → Int32) (p1 : Int32) (sf : Nat → Nat → Int32) : Nat → Nat → Int32 := (gv20_3_X5_turbines hf f p1 sf)
def fw_sse_X5_turbines (hf : Nat → Int32) (f : Nat → Int32) (se : Nat → Int32) (p1 : Int32) (sse : Nat → Nat → Int32) : Nat → Nat → Int32 := (gv20_4_X5_turbines hf f se p1 sse)
def fw_sto_X5_turbines (hf : Nat → Int32) (f : Nat → Int32) (to : Nat → Int32) (p1 : Int32) (sto : Nat → Nat → Int32) : Nat → Nat → Int32 := (gv20_5_X5_turbines hf f to p1 sto)
def fw_sre_X5_turbines (hf : Nat → Int32) (f : Nat → Int32) (re : Nat → Int32) (p1 : Int32) (sre : Nat → Nat → Int32) : Nat → Nat → Int32 := (gv20_6_X5_turbines hf f re p1 sre)
def sw1_X5_turbines (hf : Nat → Int32) (f : Nat → Int32) (p1 : Int32) : Nat → Int32 := (gv20_2_X5_turbines hf f p1)
def sw19_X5_turbines (f : Nat → Int32) (p1 : Int32) : Nat → Int32 := (gv20_7_X5_turbines f p1)
def sw20_X5_turbines (f : Nat → Int32) (se : Nat → Int32) (p1 : Int32) : Nat → Int32 := (gv20_8_X5_turbines f se p1)
def sw21_X5_turbines (f : Nat → Int32) (to : Nat → Int32) (p1 : Int32) : Nat → Int32 := (gv20_9_X5_turbines f to p1)
def sw22_X5_turbines (f : Nat → Int32) (re : Nat → Int32) (p1 : Int32) : Nat → Int32 := (gv20_10_X5_turbines f re p1)
def sw26_X5_turbines (f : Nat → Int32) (p1 : Int32) : Nat → Int32 := (gv17_1_X5_turbines f p1)
def sw27_X5_turbines (se : Nat → Int32) : Nat → Int32 := se
def sw28_X5_turbines (to : Nat → Int32) : Nat → Int32 := to
def sw29_X5_turbines (re : Nat → Int32) : Nat → Int32 := re
abbrev po_X5_turbines (cI cC cL : ClassId) (x0 h o t1 x1 y1 z1 x2 s0 s01 s02 s03 s1 s11 s12 s13 s2 s21 s22 s23 s3 s31 s32 s33 h1 h2 h3 y2 o1 o2 o3 : Nat) (hf f se to re pf tf ch of ose oto ore kf : Nat → Int32) (p1 : Int32) (sf : Nat → Nat → Int32) (sse : Nat → Nat → Int32) (sto : Nat → Nat → Int32) (sre : Nat → Nat → Int32) : Int32 → va_W → Prop := fun r w' => sr_X5_turbines f p1 = r ∧ [oX x0 h o t1 x1 y1 z1, oH x1 x2 (sw1_X5_turbines hf f p1), aL cL x2 (gS s0 s1 s2 s3), oL s0 s01 s02 s03 (fw_sf_X5_turbines hf f p1 sf 0), aI cI s01 3 (fw_sse_X5_turbines hf f se p1 sse 0), aI cI s02 7 (fw_sto_X5_turbines hf f to p1 sto 0), aI cI s03 60 (fw_sre_X5_turbines hf f re p1 sre 0), oL s1 s11 s12 s13 (fw_sf_X5_turbines hf f p1 sf 1), aI cI s11 3 (fw_sse_X5_turbines hf f se p1 sse 1), aI cI s12 7 (fw_sto_X5_turbines hf f to p1 sto 1), aI cI s13 60 (fw_sre_X5_turbines hf f re p1 sre 1), oL s2 s21 s22 s23 (fw_sf_X5_turbines hf f p1 sf 2), aI cI s21 3 (fw_sse_X5_turbines hf f se p1 sse 2), aI cI s22 7 (fw_sto_X5_turbines hf f to p1 sto 2), aI cI s23 60 (fw_sre_X5_turbines hf f re p1 sre 2), oL s3 s31 s32 s33 (fw_sf_X5_turbines hf f p1 sf 3), aI cI s31 3 (fw_sse_X5_turbines hf f se p1 sse 3), aI cI s32 7 (fw_sto_X5_turbines hf f to p1 sto 3), aI cI s33 60 (fw_sre_X5_turbines hf f re p1 sre 3), oL h h1 h2 h3 (sw19_X5_turbines f p1), aI cI h1 3 (sw20_X5_turbines f se p1), aI cI h2 7 (sw21_X5_turbines f to p1), aI cI h3 60 (sw22_X5_turbines f re p1), oP z1 pf, oT y1 y2 tf, aC cC y2 60 ch, oL o o1 o2 o3 (sw26_X5_turbines f p1), aI cI o1 3 (sw27_X5_turbines se), aI cI o2 7 (sw28_X5_turbines to), aI cI o3 60 (sw29_X5_turbines re), oK t1 kf] = w'
set_option maxHeartbeats 4000000 in
set_option maxRecDepth 100000 in
theorem ct_X5_turbines (l : Launch) (D : va_G) (cI cC cL : ClassId) (x0 h o t1 x1 y1 z1 x2 s0 s01 s02 s03 s1 s11 s12 s13 s2 s21 s22 s23 s3 s31 s32 s33 h1 h2 h3 y2 o1 o2 o3 : Nat) (hf f se to re pf tf ch of ose oto ore kf : Nat → Int32) (p1 : Int32) (sf : Nat → Nat → Int32) (sse : Nat → Nat → Int32) (sto : Nat → Nat → Int32) (sre : Nat → Nat → Int32) : ag_MI l yX5_turbines cX5_turbines 2 .int 4 93 D cI cC cL [.ref x0, .int p1] [oX x0 h o t1 x1 y1 z1, oH x1 x2 hf, aL cL x2 (gS s0 s1 s2 s3), oL s0 s01 s02 s03 (sf 0), aI cI s01 3 (sse 0), aI cI s02 7 (sto 0), aI cI s03 60 (sre 0), oL s1 s11 s12 s13 (sf 1), aI cI s11 3 (sse 1), aI cI s12 7 (sto 1), aI cI s13 60 (sre 1), oL s2 s21 s22 s23 (sf 2), aI cI s21 3 (sse 2), aI cI s22 7 (sto 2), aI cI s23 60 (sre 2), oL s3 s31 s32 s33 (sf 3), aI cI s31 3 (sse 3), aI cI s32 7 (sto 3), aI cI s33 60 (sre 3), oL h h1 h2 h3 f, aI cI h1 3 se, aI cI h2 7 to, aI cI h3 60 re, oP z1 pf, oT y1 y2 tf, aC cC y2 60 ch, oL o o1 o2 o3 of, aI cI o1 3 ose, aI cI o2 7 oto, aI cI o3 60 ore, oK t1 kf] (po_X5_turbines cI cC cL x0 h o t1 x1 y1 z1 x2 s0 s01 s02 s03 s1 s11 s12 s13 s2 s21 s22 s23 s3 s31 s32 s33 h1 h2 h3 y2 o1 o2 o3 hf f se to re pf tf ch of ose oto ore kf p1 sf sse sto sre) := by
  refine ag_MI.of (plainFor_of_name (by decide)) (Nat.le_of_ble_eq_true rfl) ?_
  intro p e s m below meth c hx hb hr hlocks hml hown hmn hG hK A hN hA H locs hP hD hS ls hl
  have hl : lv_has ls 2 [(0, .ref x0), (1, .int p1)] := hl
  refine lv_aload_n hx hb dX5_turbines_0 rfl (lv_at hl 0 rfl) ?_
  refine ag_getX5 (v := .ref o) hx hb hG hown hK hP 0 1 rfl (by decide) k_177 rfl dX5_turbines_1 ?_
  refine lv_aload_n hx hb dX5_turbines_4 rfl (lv_at hl 0 rfl) ?_
  refine ag_getX5 (v := .ref h) hx hb hG hown hK hP 0 0 rfl (by decide) k_176 rfl dX5_turbines_5 ?_
  refine ag_callVv (As := [.ref h]) (rest := []) hx hb hml hown hG hK hN hA hP hD hS hl (ct_X1_copyFrom l D cI cC cL o h o1 o2 o3 h1 h2 h3 of ose oto ore f se to re) fX1_copyFrom k_255 (ag_cut_2s 4 [oX x0 h o t1 x1 y1 z1, oH x1 x2 hf, aL cL x2 (gS s0 s1 s2 s3), oL s0 s01 s02 s03 (sf 0), aI cI s01 3 (sse 0), aI cI s02 7 (sto 0), aI cI s03 60 (sre 0), oL s1 s11 s12 s13 (sf 1), aI cI s11 3 (sse 1), aI cI s12 7 (sto 1), aI cI s13 60 (sre 1), oL s2 s21 s22 s23 (sf 2), aI cI s21 3 (sse 2), aI cI s22 7 (sto 2), aI cI s23 60 (sre 2), oL s3 s31 s32 s33 (sf 3), aI cI s31 3 (sse 3), aI cI s32 7 (sto 3), aI cI s33 60 (sre 3)] [oL o o1 o2 o3 of, aI cI o1 3 ose, aI cI o2 7 oto, aI cI o3 60 ore] [oP z1 pf, oT y1 y2 tf, aC cC y2 60 ch] [oL h h1 h2 h3 f, aI cI h1 3 se, aI cI h2 7 to, aI cI h3 60 re] [oK t1 kf] rfl rfl rfl) (q0 := 26) rfl rfl rfl rfl (Nat.le_of_ble_eq_true rfl) ⟨Nat.le_of_ble_eq_true rfl, Nat.le_of_ble_eq_true rfl⟩ ⟨Nat.zero_le _, Nat.zero_le _⟩ dX5_turbines_8 (fun w1 H locs hw hP hD hS => ?_)
  have hw : _ = w1 := hw
  subst hw
  have hP : va_P D vwCl [oX x0 h o t1 x1 y1 z1, oH x1 x2 hf, aL cL x2 (gS s0 s1 s2 s3), oL s0 s01 s02 s03 (sf 0), aI cI s01 3 (sse 0), aI cI s02 7 (sto 0), aI cI s03 60 (sre 0), oL s1 s11 s12 s13 (sf 1), aI cI s11 3 (sse 1), aI cI s12 7 (sto 1), aI cI s13 60 (sre 1), oL s2 s21 s22 s23 (sf 2), aI cI s21 3 (sse 2), aI cI s22 7 (sto 2), aI cI s23 60 (sre 2), oL s3 s31 s32 s33 (sf 3), aI cI s31 3 (sse 3), aI cI s32 7 (sto 3), aI cI s33 60 (sre 3), oL h h1 h2 h3 f, aI cI h1 3 se, aI cI h2 7 to, aI cI h3 60 re, oP z1 pf, oT y1 y2 tf, aC cC y2 60 ch, oL o o1 o2 o3 f, aI cI o1 3 se, aI cI o2 7 to, aI cI o3 60 re, oK t1 kf] H := hP
  have hD : va_D A [oX x0 h o t1 x1 y1 z1, oH x1 x2 hf, aL cL x2 (gS s0 s1 s2 s3), oL s0 s01 s02 s03 (sf 0), aI cI s01 3 (sse 0), aI cI s02 7 (sto 0), aI cI s03 60 (sre 0), oL s1 s11 s12 s13 (sf 1), aI cI s11 3 (sse 1), aI cI s12 7 (sto 1), aI cI s13 60 (sre 1), oL s2 s21 s22 s23 (sf 2), aI cI s21 3 (sse 2), aI cI s22 7 (sto 2), aI cI s23 60 (sre 2), oL s3 s31 s32 s33 (sf 3), aI cI s31 3 (sse 3), aI cI s32 7 (sto 3), aI cI s33 60 (sre 3), oL h h1 h2 h3 f, aI cI h1 3 se, aI cI h2 7 to, aI cI h3 60 re, oP z1 pf, oT y1 y2 tf, aC cC y2 60 ch, oL o o1 o2 o3 f, aI cI o1 3 se, aI cI o2 7 to, aI cI o3 60 re, oK t1 kf] := hD
  refine lv_aload_n hx hb dX5_turbines_11 rfl (lv_at hl 0 rfl) ?_
  refine lv_aload_n hx hb dX5_turbines_12 rfl (lv_at hl 0 rfl) ?_
  refine ag_getX5 (v := .ref o) hx hb hG hown hK hP 0 1 rfl (by decide) k_177 rfl dX5_turbines_13 ?_
  refine lv_iload_n hx hb dX5_turbines_16 rfl (lv_at hl 1 rfl) ?_
  refine ag_callVi (As := [.int p1]) (rest := [.ref x0]) hx hb hml hown hG hK hN hA hP hD hS hl (ct_X1_openTurbines l D cI cC cL o o1 o2 o3 f se to re p1) fX1_openTurbines k_290 (ag_cut_1 [oX x0 h o t1 x1 y1 z1, oH x1 x2 hf, aL cL x2 (gS s0 s1 s2 s3), oL s0 s01 s02 s03 (sf 0), aI cI s01 3 (sse 0), aI cI s02 7 (sto 0), aI cI s03 60 (sre 0), oL s1 s11 s12 s13 (sf 1), aI cI s11 3 (sse 1), aI cI s12 7 (sto 1), aI cI s13 60 (sre 1), oL s2 s21 s22 s23 (sf 2), aI cI s21 3 (sse 2), aI cI s22 7 (sto 2), aI cI s23 60 (sre 2), oL s3 s31 s32 s33 (sf 3), aI cI s31 3 (sse 3), aI cI s32 7 (sto 3), aI cI s33 60 (sre 3), oL h h1 h2 h3 f, aI cI h1 3 se, aI cI h2 7 to, aI cI h3 60 re, oP z1 pf, oT y1 y2 tf, aC cC y2 60 ch] [oK t1 kf] rfl) (q0 := 26) rfl rfl rfl rfl (Nat.le_of_ble_eq_true rfl) ⟨Nat.le_of_ble_eq_true rfl, Nat.le_of_ble_eq_true rfl⟩ ⟨Nat.zero_le _, Nat.zero_le _⟩ dX5_turbines_17 (fun r w1 H locs hw hP hD hS => ?_)
  obtain ⟨rfl, hw⟩ := hw
  generalize eg17_1 : sw0_X1_openTurbines f p1 = g17_1 at hw
  replace eg17_1 : gv17_1_X5_turbines f p1 = g17_1 := (by rw [← eg17_1]; rfl)
  subst hw
  have hP : va_P D vwCl [oX x0 h o t1 x1 y1 z1, oH x1 x2 hf, aL cL x2 (gS s0 s1 s2 s3), oL s0 s01 s02 s03 (sf 0), aI cI s01 3 (sse 0), aI cI s02 7 (sto 0), aI cI s03 60 (sre 0), oL s1 s11 s12 s13 (sf 1), aI cI s11 3 (sse 1), aI cI s12 7 (sto 1), aI cI s13 60 (sre 1), oL s2 s21 s22 s23 (sf 2), aI cI s21 3 (sse 2), aI cI s22 7 (sto 2), aI cI s23 60 (sre 2), oL s3 s31 s32 s33 (sf 3), aI cI s31 3 (sse 3), aI cI s32 7 (sto 3), aI cI s33 60 (sre 3), oL h h1 h2 h3 f, aI cI h1 3 se, aI cI h2 7 to, aI cI h3 60 re, oP z1 pf, oT y1 y2 tf, aC cC y2 60 ch, oL o o1 o2 o3 g17_1, aI cI o1 3 se, aI cI o2 7 to, aI cI o3 60 re, oK t1 kf] H := hP
  have hD : va_D A [oX x0 h o t1 x1 y1 z1, oH x1 x2 hf, aL cL x2 (gS s0 s1 s2 s3), oL s0 s01 s02 s03 (sf 0), aI cI s01 3 (sse 0), aI cI s02 7 (sto 0), aI cI s03 60 (sre 0), oL s1 s11 s12 s13 (sf 1), aI cI s11 3 (sse 1), aI cI s12 7 (sto 1), aI cI s13 60 (sre 1), oL s2 s21 s22 s23 (sf 2), aI cI s21 3 (sse 2), aI cI s22 7 (sto 2), aI cI s23 60 (sre 2), oL s3 s31 s32 s33 (sf 3), aI cI s31 3 (sse 3), aI cI s32 7 (sto 3), aI cI s33 60 (sre 3), oL h h1 h2 h3 f, aI cI h1 3 se, aI cI h2 7 to, aI cI h3 60 re, oP z1 pf, oT y1 y2 tf, aC cC y2 60 ch, oL o o1 o2 o3 g17_1, aI cI o1 3 se, aI cI o2 7 to, aI cI o3 60 re, oK t1 kf] := hD
  refine ag_callVi (As := [.int (sr_X1_openTurbines f p1)]) (rest := []) hx hb hml hown hG hK hN hA hP hD hS hl (ct_X5_settle l D cI cC cL x0 h o t1 x1 y1 z1 x2 s0 s01 s02 s03 s1 s11 s12 s13 s2 s21 s22 s23 s3 s31 s32 s33 h1 h2 h3 y2 o1 o2 o3 hf f se to re pf tf ch g17_1 se to re kf (sr_X1_openTurbines f p1) sf sse sto sre) fX5_settle k_267 ag_cut_all (q0 := 0) rfl rfl rfl rfl (Nat.le_of_ble_eq_true rfl) ⟨Nat.le_of_ble_eq_true rfl, Nat.le_of_ble_eq_true rfl⟩ ⟨Nat.zero_le _, Nat.zero_le _⟩ dX5_turbines_20 (fun r w1 H locs hw hP hD hS => ?_)
  obtain ⟨rfl, hw⟩ := hw
  generalize eg20_2 : sw1_X5_settle hf (sr_X1_openTurbines f p1) = g20_2 at hw
  replace eg20_2 : gv20_2_X5_turbines hf f p1 = g20_2 := (by rw [← eg20_2]; rfl)
  generalize eg20_3 : fw_sf_X5_settle hf f (sr_X1_openTurbines f p1) sf = g20_3 at hw
  replace eg20_3 : gv20_3_X5_turbines hf f p1 sf = g20_3 := (by rw [← eg20_3]; rfl)
  generalize eg20_4 : fw_sse_X5_settle hf se (sr_X1_openTurbines f p1) sse = g20_4 at hw
  replace eg20_4 : gv20_4_X5_turbines hf f se p1 sse = g20_4 := (by rw [← eg20_4]; rfl)
  generalize eg20_5 : fw_sto_X5_settle hf to (sr_X1_openTurbines f p1) sto = g20_5 at hw
  replace eg20_5 : gv20_5_X5_turbines hf f to p1 sto = g20_5 := (by rw [← eg20_5]; rfl)
  generalize eg20_6 : fw_sre_X5_settle hf re (sr_X1_openTurbines f p1) sre = g20_6 at hw
  replace eg20_6 : gv20_6_X5_turbines hf f re p1 sre = g20_6 := (by rw [← eg20_6]; rfl)
  generalize eg20_7 : sw19_X5_settle f g17_1 (sr_X1_openTurbines f p1) = g20_7 at hw
  replace eg20_7 : gv20_7_X5_turbines f p1 = g20_7 := (by rw [← eg20_7, ← eg17_1]; rfl)
  generalize eg20_8 : sw20_X5_settle se se (sr_X1_openTurbines f p1) = g20_8 at hw
  replace eg20_8 : gv20_8_X5_turbines f se p1 = g20_8 := (by rw [← eg20_8]; rfl)
  generalize eg20_9 : sw21_X5_settle to to (sr_X1_openTurbines f p1) = g20_9 at hw
  replace eg20_9 : gv20_9_X5_turbines f to p1 = g20_9 := (by rw [← eg20_9]; rfl)
  generalize eg20_10 : sw22_X5_settle re re (sr_X1_openTurbines f p1) = g20_10 at hw
  replace eg20_10 : gv20_10_X5_turbines f re p1 = g20_10 := (by rw [← eg20_10]; rfl)
  subst hw
  have hP : va_P D vwCl [oX x0 h o t1 x1 y1 z1, oH x1 x2 g20_2, aL cL x2 (gS s0 s1 s2 s3), oL s0 s01 s02 s03 (g20_3 0), aI cI s01 3 (g20_4 0), aI cI s02 7 (g20_5 0), aI cI s03 60 (g20_6 0), oL s1 s11 s12 s13 (g20_3 1), aI cI s11 3 (g20_4 1), aI cI s12 7 (g20_5 1), aI cI s13 60 (g20_6 1), oL s2 s21 s22 s23 (g20_3 2), aI cI s21 3 (g20_4 2), aI cI s22 7 (g20_5 2), aI cI s23 60 (g20_6 2), oL s3 s31 s32 s33 (g20_3 3), aI cI s31 3 (g20_4 3), aI cI s32 7 (g20_5 3), aI cI s33 60 (g20_6 3), oL h h1 h2 h3 g20_7, aI cI h1 3 g20_8, aI cI h2 7 g20_9, aI cI h3 60 g20_10, oP z1 pf, oT y1 y2 tf, aC cC y2 60 ch, oL o o1 o2 o3 g17_1, aI cI o1 3 se, aI cI o2 7 to, aI cI o3 60 re, oK t1 kf] H := hP
  have hD : va_D A [oX x0 h o t1 x1 y1 z1, oH x1 x2 g20_2, aL cL x2 (gS s0 s1 s2 s3), oL s0 s01 s02 s03 (g20_3 0), aI cI s01 3 (g20_4 0), aI cI s02 7 (g20_5 0), aI cI s03 60 (g20_6 0), oL s1 s11 s12 s13 (g20_3 1), aI cI s11 3 (g20_4 1), aI cI s12 7 (g20_5 1), aI cI s13 60 (g20_6 1), oL s2 s21 s22 s23 (g20_3 2), aI cI s21 3 (g20_4 2), aI cI s22 7 (g20_5 2), aI cI s23 60 (g20_6 2), oL s3 s31 s32 s33 (g20_3 3), aI cI s31 3 (g20_4 3), aI cI s32 7 (g20_5 3), aI cI s33 60 (g20_6 3), oL h h1 h2 h3 g20_7, aI cI h1 3 g20_8, aI cI h2 7 g20_9, aI cI h3 60 g20_10, oP z1 pf, oT y1 y2 tf, aC cC y2 60 ch, oL o o1 o2 o3 g17_1, aI cI o1 3 se, aI cI o2 7 to, aI cI o3 60 re, oK t1 kf] := hD
  revert hP; revert hD; revert hS; revert hl
  subst eg20_10
  subst eg20_9
  subst eg20_8
  subst eg20_7
  subst eg20_6
  subst eg20_5
  subst eg20_4
  subst eg20_3
  subst eg20_2
  subst eg17_1
  intro hl hS hD hP
  exact ag_iret [x0, x1, x2, s0, s01, s02, s03, s1, s11, s12, s13, s2, s21, s22, s23, s3, s31, s32, s33, h, h1, h2, h3, z1, y1, y2, o, o1, o2, o3, t1] hx hb hr rfl hlocks hP hS rfl rfl ⟨rfl, (by show _ = _; rw [show fw_sf_X5_turbines hf f p1 sf = (gv20_3_X5_turbines hf f p1 sf) from rfl, show fw_sse_X5_turbines hf f se p1 sse = (gv20_4_X5_turbines hf f se p1 sse) from rfl, show fw_sto_X5_turbines hf f to p1 sto = (gv20_5_X5_turbines hf f to p1 sto) from rfl, show fw_sre_X5_turbines hf f re p1 sre = (gv20_6_X5_turbines hf f re p1 sre) from rfl, show sw1_X5_turbines hf f p1 = (gv20_2_X5_turbines hf f p1) from rfl, show sw19_X5_turbines f p1 = (gv20_7_X5_turbines f p1) from rfl, show sw20_X5_turbines f se p1 = (gv20_8_X5_turbines f se p1) from rfl, show sw21_X5_turbines f to p1 = (gv20_9_X5_turbines f to p1) from rfl, show sw22_X5_turbines f re p1 = (gv20_10_X5_turbines f re p1) from rfl, show sw26_X5_turbines f p1 = (gv17_1_X5_turbines f p1) from rfl, show sw27_X5_turbines se = se from rfl, show sw28_X5_turbines to = to from rfl, show sw29_X5_turbines re = re from rfl])⟩ dX5_turbines_23
def gv17_1_X5_pump (f : Nat → Int32) (p1 : Int32) : Nat → Int32 := sw0_X1_setPump f p1
def gv20_2_X5_pump (hf : Nat → Int32) (f : Nat → Int32) (p1 : Int32) : Nat → Int32 := sw1_X5_settle hf (sr_X1_setPump f p1)
def gv20_3_X5_pump (hf : Nat → Int32) (f : Nat → Int32) (p1 : Int32) (sf : Nat → Nat → Int32) : Nat → Nat → Int32 := fw_sf_X5_settle hf f (sr_X1_setPump f p1) sf
def gv20_4_X5_pump (hf : Nat → Int32) (f : Nat → Int32) (se : Nat → Int32) (p1 : Int32) (sse : Nat → Nat → Int32) : Nat → Nat → Int32 := fw_sse_X5_settle hf se (sr_X1_setPump f p1) sse
def gv20_5_X5_pump (hf : Nat → Int32) (f : Nat → Int32) (to : Nat → Int32) (p1 : Int32) (sto : Nat → Nat → Int32) : Nat → Nat → Int32 := fw_sto_X5_settle hf to (sr_X1_setPump f p1) sto
def gv20_6_X5_pump (hf : Nat → Int32) (f : Nat → Int32) (re : Nat → Int32) (p1 : Int32) (sre : Nat → Nat → Int32) : Nat → Nat → Int32 := fw_sre_X5_settle hf re (sr_X1_setPump f p1) sre
def gv20_7_X5_pump (f : Nat → Int32) (p1 : Int32) : Nat → Int32 := sw19_X5_settle f (gv17_1_X5_pump f p1) (sr_X1_setPump f p1)
def gv20_8_X5_pump (f : Nat → Int32) (se : Nat → Int32) (p1 : Int32) : Nat → Int32 := sw20_X5_settle se se (sr_X1_setPump f p1)
def gv20_9_X5_pump (f : Nat → Int32) (to : Nat → Int32) (p1 : Int32) : Nat → Int32 := sw21_X5_settle to to (sr_X1_setPump f p1)
def gv20_10_X5_pump (f : Nat → Int32) (re : Nat → Int32) (p1 : Int32) : Nat → Int32 := sw22_X5_settle re re (sr_X1_setPump f p1)
def sr_X5_pump (f : Nat → Int32) (p1 : Int32) : Int32 := sr_X5_settle (sr_X1_setPump f p1)
def fw_sf_X5_pump (hf : Nat → Int32) (f : Nat → Int32) (p1 : Int32) (sf : Nat → Nat → Int32) : Nat → Nat → Int32 := (gv20_3_X5_pump hf f p1 sf)
def fw_sse_X5_pump (hf : Nat → Int32) (f : Nat → Int32) (se : Nat → Int32) (p1 : Int32) (sse : Nat → Nat → Int32) : Nat → Nat → Int32 := (gv20_4_X5_pump hf f se p1 sse)
def fw_sto_X5_pump (hf : Nat → Int32) (f : Nat → Int32) (to : Nat → Int32) (p1 : Int32) (sto : Nat → Nat → Int32) : Nat → Nat → Int32 := (gv20_5_X5_pump hf f to p1 sto)
def fw_sre_X5_pump (hf : Nat → Int32) (f : Nat → Int32) (re : Nat → Int32) (p1 : Int32) (sre : Nat → Nat → Int32) : Nat → Nat → Int32 := (gv20_6_X5_pump hf f re p1 sre)
def sw1_X5_pump (hf : Nat → Int32) (f : Nat → Int32) (p1 : Int32) : Nat → Int32 := (gv20_2_X5_pump hf f p1)
def sw19_X5_pump (f : Nat → Int32) (p1 : Int32) : Nat → Int32 := (gv20_7_X5_pump f p1)
def sw20_X5_pump (f : Nat → Int32) (se : Nat → Int32) (p1 : Int32) : Nat → Int32 := (gv20_8_X5_pump f se p1)
def sw21_X5_pump (f : Nat → Int32) (to : Nat → Int32) (p1 : Int32) : Nat → Int32 := (gv20_9_X5_pump f to p1)
def sw22_X5_pump (f : Nat → Int32) (re : Nat → Int32) (p1 : Int32) : Nat → Int32 := (gv20_10_X5_pump f re p1)
def sw26_X5_pump (f : Nat → Int32) (p1 : Int32) : Nat → Int32 := (gv17_1_X5_pump f p1)
def sw27_X5_pump (se : Nat → Int32) : Nat → Int32 := se
def sw28_X5_pump (to : Nat → Int32) : Nat → Int32 := to
def sw29_X5_pump (re : Nat → Int32) : Nat → Int32 := re
abbrev po_X5_pump (cI cC cL : ClassId) (x0 h o t1 x1 y1 z1 x2 s0 s01 s02 s03 s1 s11 s12 s13 s2 s21 s22 s23 s3 s31 s32 s33 h1 h2 h3 y2 o1 o2 o3 : Nat) (hf f se to re pf tf ch of ose oto ore kf : Nat → Int32) (p1 : Int32) (sf : Nat → Nat → Int32) (sse : Nat → Nat → Int32) (sto : Nat → Nat → Int32) (sre : Nat → Nat → Int32) : Int32 → va_W → Prop := fun r w' => sr_X5_pump f p1 = r ∧ [oX x0 h o t1 x1 y1 z1, oH x1 x2 (sw1_X5_pump hf f p1), aL cL x2 (gS s0 s1 s2 s3), oL s0 s01 s02 s03 (fw_sf_X5_pump hf f p1 sf 0), aI cI s01 3 (fw_sse_X5_pump hf f se p1 sse 0), aI cI s02 7 (fw_sto_X5_pump hf f to p1 sto 0), aI cI s03 60 (fw_sre_X5_pump hf f re p1 sre 0), oL s1 s11 s12 s13 (fw_sf_X5_pump hf f p1 sf 1), aI cI s11 3 (fw_sse_X5_pump hf f se p1 sse 1), aI cI s12 7 (fw_sto_X5_pump hf f to p1 sto 1), aI cI s13 60 (fw_sre_X5_pump hf f re p1 sre 1), oL s2 s21 s22 s23 (fw_sf_X5_pump hf f p1 sf 2), aI cI s21 3 (fw_sse_X5_pump hf f se p1 sse 2), aI cI s22 7 (fw_sto_X5_pump hf f to p1 sto 2), aI cI s23 60 (fw_sre_X5_pump hf f re p1 sre 2), oL s3 s31 s32 s33 (fw_sf_X5_pump hf f p1 sf 3), aI cI s31 3 (fw_sse_X5_pump hf f se p1 sse 3), aI cI s32 7 (fw_sto_X5_pump hf f to p1 sto 3), aI cI s33 60 (fw_sre_X5_pump hf f re p1 sre 3), oL h h1 h2 h3 (sw19_X5_pump f p1), aI cI h1 3 (sw20_X5_pump f se p1), aI cI h2 7 (sw21_X5_pump f to p1), aI cI h3 60 (sw22_X5_pump f re p1), oP z1 pf, oT y1 y2 tf, aC cC y2 60 ch, oL o o1 o2 o3 (sw26_X5_pump f p1), aI cI o1 3 (sw27_X5_pump se), aI cI o2 7 (sw28_X5_pump to), aI cI o3 60 (sw29_X5_pump re), oK t1 kf] = w'
set_option maxHeartbeats 4000000 in
set_option maxRecDepth 100000 in
theorem ct_X5_pump (l : Launch) (D : va_G) (cI cC cL : ClassId) (x0 h o t1 x1 y1 z1 x2 s0 s01 s02 s03 s1 s11 s12 s13 s2 s21 s22 s23 s3 s31 s32 s33 h1 h2 h3 y2 o1 o2 o3 : Nat) (hf f se to re pf tf ch of ose oto ore kf : Nat → Int32) (p1 : Int32) (sf : Nat → Nat → Int32) (sse : Nat → Nat → Int32) (sto : Nat → Nat → Int32) (sre : Nat → Nat → Int32) : ag_MI l yX5_pump cX5_pump 2 .int 4 93 D cI cC cL [.ref x0, .int p1] [oX x0 h o t1 x1 y1 z1, oH x1 x2 hf, aL cL x2 (gS s0 s1 s2 s3), oL s0 s01 s02 s03 (sf 0), aI cI s01 3 (sse 0), aI cI s02 7 (sto 0), aI cI s03 60 (sre 0), oL s1 s11 s12 s13 (sf 1), aI cI s11 3 (sse 1), aI cI s12 7 (sto 1), aI cI s13 60 (sre 1), oL s2 s21 s22 s23 (sf 2), aI cI s21 3 (sse 2), aI cI s22 7 (sto 2), aI cI s23 60 (sre 2), oL s3 s31 s32 s33 (sf 3), aI cI s31 3 (sse 3), aI cI s32 7 (sto 3), aI cI s33 60 (sre 3), oL h h1 h2 h3 f, aI cI h1 3 se, aI cI h2 7 to, aI cI h3 60 re, oP z1 pf, oT y1 y2 tf, aC cC y2 60 ch, oL o o1 o2 o3 of, aI cI o1 3 ose, aI cI o2 7 oto, aI cI o3 60 ore, oK t1 kf] (po_X5_pump cI cC cL x0 h o t1 x1 y1 z1 x2 s0 s01 s02 s03 s1 s11 s12 s13 s2 s21 s22 s23 s3 s31 s32 s33 h1 h2 h3 y2 o1 o2 o3 hf f se to re pf tf ch of ose oto ore kf p1 sf sse sto sre) := by
  refine ag_MI.of (plainFor_of_name (by decide)) (Nat.le_of_ble_eq_true rfl) ?_
  intro p e s m below meth c hx hb hr hlocks hml hown hmn hG hK A hN hA H locs hP hD hS ls hl
  have hl : lv_has ls 2 [(0, .ref x0), (1, .int p1)] := hl
  refine lv_aload_n hx hb dX5_pump_0 rfl (lv_at hl 0 rfl) ?_
  refine ag_getX5 (v := .ref o) hx hb hG hown hK hP 0 1 rfl (by decide) k_177 rfl dX5_pump_1 ?_
  refine lv_aload_n hx hb dX5_pump_4 rfl (lv_at hl 0 rfl) ?_
  refine ag_getX5 (v := .ref h) hx hb hG hown hK hP 0 0 rfl (by decide) k_176 rfl dX5_pump_5 ?_
  refine ag_callVv (As := [.ref h]) (rest := []) hx hb hml hown hG hK hN hA hP hD hS hl (ct_X1_copyFrom l D cI cC cL o h o1 o2 o3 h1 h2 h3 of ose oto ore f se to re) fX1_copyFrom k_255 (ag_cut_2s 4 [oX x0 h o t1 x1 y1 z1, oH x1 x2 hf, aL cL x2 (gS s0 s1 s2 s3), oL s0 s01 s02 s03 (sf 0), aI cI s01 3 (sse 0), aI cI s02 7 (sto 0), aI cI s03 60 (sre 0), oL s1 s11 s12 s13 (sf 1), aI cI s11 3 (sse 1), aI cI s12 7 (sto 1), aI cI s13 60 (sre 1), oL s2 s21 s22 s23 (sf 2), aI cI s21 3 (sse 2), aI cI s22 7 (sto 2), aI cI s23 60 (sre 2), oL s3 s31 s32 s33 (sf 3), aI cI s31 3 (sse 3), aI cI s32 7 (sto 3), aI cI s33 60 (sre 3)] [oL o o1 o2 o3 of, aI cI o1 3 ose, aI cI o2 7 oto, aI cI o3 60 ore] [oP z1 pf, oT y1 y2 tf, aC cC y2 60 ch] [oL h h1 h2 h3 f, aI cI h1 3 se, aI cI h2 7 to, aI cI h3 60 re] [oK t1 kf] rfl rfl rfl) (q0 := 26) rfl rfl rfl rfl (Nat.le_of_ble_eq_true rfl) ⟨Nat.le_of_ble_eq_true rfl, Nat.le_of_ble_eq_true rfl⟩ ⟨Nat.zero_le _, Nat.zero_le _⟩ dX5_pump_8 (fun w1 H locs hw hP hD hS => ?_)
  have hw : _ = w1 := hw
  subst hw
  have hP : va_P D vwCl [oX x0 h o t1 x1 y1 z1, oH x1 x2 hf, aL cL x2 (gS s0 s1 s2 s3), oL s0 s01 s02 s03 (sf 0), aI cI s01 3 (sse 0), aI cI s02 7 (sto 0), aI cI s03 60 (sre 0), oL s1 s11 s12 s13 (sf 1), aI cI s11 3 (sse 1), aI cI s12 7 (sto 1), aI cI s13 60 (sre 1), oL s2 s21 s22 s23 (sf 2), aI cI s21 3 (sse 2), aI cI s22 7 (sto 2), aI cI s23 60 (sre 2), oL s3 s31 s32 s33 (sf 3), aI cI s31 3 (sse 3), aI cI s32 7 (sto 3), aI cI s33 60 (sre 3), oL h h1 h2 h3 f, aI cI h1 3 se, aI cI h2 7 to, aI cI h3 60 re, oP z1 pf, oT y1 y2 tf, aC cC y2 60 ch, oL o o1 o2 o3 f, aI cI o1 3 se, aI cI o2 7 to, aI cI o3 60 re, oK t1 kf] H := hP
  have hD : va_D A [oX x0 h o t1 x1 y1 z1, oH x1 x2 hf, aL cL x2 (gS s0 s1 s2 s3), oL s0 s01 s02 s03 (sf 0), aI cI s01 3 (sse 0), aI cI s02 7 (sto 0), aI cI s03 60 (sre 0), oL s1 s11 s12 s13 (sf 1), aI cI s11 3 (sse 1), aI cI s12 7 (sto 1), aI cI s13 60 (sre 1), oL s2 s21 s22 s23 (sf 2), aI cI s21 3 (sse 2), aI cI s22 7 (sto 2), aI cI s23 60 (sre 2), oL s3 s31 s32 s33 (sf 3), aI cI s31 3 (sse 3), aI cI s32 7 (sto 3), aI cI s33 60 (sre 3), oL h h1 h2 h3 f, aI cI h1 3 se, aI cI h2 7 to, aI cI h3 60 re, oP z1 pf, oT y1 y2 tf, aC cC y2 60 ch, oL o o1 o2 o3 f, aI cI o1 3 se, aI cI o2 7 to, aI cI o3 60 re, oK t1 kf] := hD
  refine lv_aload_n hx hb dX5_pump_11 rfl (lv_at hl 0 rfl) ?_
  refine lv_aload_n hx hb dX5_pump_12 rfl (lv_at hl 0 rfl) ?_
  refine ag_getX5 (v := .ref o) hx hb hG hown hK hP 0 1 rfl (by decide) k_177 rfl dX5_pump_13 ?_
  refine lv_iload_n hx hb dX5_pump_16 rfl (lv_at hl 1 rfl) ?_
  refine ag_callVi (As := [.int p1]) (rest := [.ref x0]) hx hb hml hown hG hK hN hA hP hD hS hl (ct_X1_setPump l D cI cC cL o o1 o2 o3 f se to re p1) fX1_setPump k_298 (ag_cut_1 [oX x0 h o t1 x1 y1 z1, oH x1 x2 hf, aL cL x2 (gS s0 s1 s2 s3), oL s0 s01 s02 s03 (sf 0), aI cI s01 3 (sse 0), aI cI s02 7 (sto 0), aI cI s03 60 (sre 0), oL s1 s11 s12 s13 (sf 1), aI cI s11 3 (sse 1), aI cI s12 7 (sto 1), aI cI s13 60 (sre 1), oL s2 s21 s22 s23 (sf 2), aI cI s21 3 (sse 2), aI cI s22 7 (sto 2), aI cI s23 60 (sre 2), oL s3 s31 s32 s33 (sf 3), aI cI s31 3 (sse 3), aI cI s32 7 (sto 3), aI cI s33 60 (sre 3), oL h h1 h2 h3 f, aI cI h1 3 se, aI cI h2 7 to, aI cI h3 60 re, oP z1 pf, oT y1 y2 tf, aC cC y2 60 ch] [oK t1 kf] rfl) (q0 := 26) rfl rfl rfl rfl (Nat.le_of_ble_eq_true rfl) ⟨Nat.le_of_ble_eq_true rfl, Nat.le_of_ble_eq_true rfl⟩ ⟨Nat.zero_le _, Nat.zero_le _⟩ dX5_pump_17 (fun r w1 H locs hw hP hD hS => ?_)
  obtain ⟨rfl, hw⟩ := hw
  generalize eg17_1 : sw0_X1_setPump f p1 = g17_1 at hw
  replace eg17_1 : gv17_1_X5_pump f p1 = g17_1 := (by rw [← eg17_1]; rfl)
  subst hw
  have hP : va_P D vwCl [oX x0 h o t1 x1 y1 z1, oH x1 x2 hf, aL cL x2 (gS s0 s1 s2 s3), oL s0 s01 s02 s03 (sf 0), aI cI s01 3 (sse 0), aI cI s02 7 (sto 0), aI cI s03 60 (sre 0), oL s1 s11 s12 s13 (sf 1), aI cI s11 3 (sse 1), aI cI s12 7 (sto 1), aI cI s13 60 (sre 1), oL s2 s21 s22 s23 (sf 2), aI cI s21 3 (sse 2), aI cI s22 7 (sto 2), aI cI s23 60 (sre 2), oL s3 s31 s32 s33 (sf 3), aI cI s31 3 (sse 3), aI cI s32 7 (sto 3), aI cI s33 60 (sre 3), oL h h1 h2 h3 f, aI cI h1 3 se, aI cI h2 7 to, aI cI h3 60 re, oP z1 pf, oT y1 y2 tf, aC cC y2 60 ch, oL o o1 o2 o3 g17_1, aI cI o1 3 se, aI cI o2 7 to, aI cI o3 60 re, oK t1 kf] H := hP
  have hD : va_D A [oX x0 h o t1 x1 y1 z1, oH x1 x2 hf, aL cL x2 (gS s0 s1 s2 s3), oL s0 s01 s02 s03 (sf 0), aI cI s01 3 (sse 0), aI cI s02 7 (sto 0), aI cI s03 60 (sre 0), oL s1 s11 s12 s13 (sf 1), aI cI s11 3 (sse 1), aI cI s12 7 (sto 1), aI cI s13 60 (sre 1), oL s2 s21 s22 s23 (sf 2), aI cI s21 3 (sse 2), aI cI s22 7 (sto 2), aI cI s23 60 (sre 2), oL s3 s31 s32 s33 (sf 3), aI cI s31 3 (sse 3), aI cI s32 7 (sto 3), aI cI s33 60 (sre 3), oL h h1 h2 h3 f, aI cI h1 3 se, aI cI h2 7 to, aI cI h3 60 re, oP z1 pf, oT y1 y2 tf, aC cC y2 60 ch, oL o o1 o2 o3 g17_1, aI cI o1 3 se, aI cI o2 7 to, aI cI o3 60 re, oK t1 kf] := hD
  refine ag_callVi (As := [.int (sr_X1_setPump f p1)]) (rest := []) hx hb hml hown hG hK hN hA hP hD hS hl (ct_X5_settle l D cI cC cL x0 h o t1 x1 y1 z1 x2 s0 s01 s02 s03 s1 s11 s12 s13 s2 s21 s22 s23 s3 s31 s32 s33 h1 h2 h3 y2 o1 o2 o3 hf f se to re pf tf ch g17_1 se to re kf (sr_X1_setPump f p1) sf sse sto sre) fX5_settle k_267 ag_cut_all (q0 := 0) rfl rfl rfl rfl (Nat.le_of_ble_eq_true rfl) ⟨Nat.le_of_ble_eq_true rfl, Nat.le_of_ble_eq_true rfl⟩ ⟨Nat.zero_le _, Nat.zero_le _⟩ dX5_pump_20 (fun r w1 H locs hw hP hD hS => ?_)
  obtain ⟨rfl, hw⟩ := hw
  generalize eg20_2 : sw1_X5_settle hf (sr_X1_setPump f p1) = g20_2 at hw
  replace eg20_2 : gv20_2_X5_pump hf f p1 = g20_2 := (by rw [← eg20_2]; rfl)
  generalize eg20_3 : fw_sf_X5_settle hf f (sr_X1_setPump f p1) sf = g20_3 at hw
  replace eg20_3 : gv20_3_X5_pump hf f p1 sf = g20_3 := (by rw [← eg20_3]; rfl)
  generalize eg20_4 : fw_sse_X5_settle hf se (sr_X1_setPump f p1) sse = g20_4 at hw
  replace eg20_4 : gv20_4_X5_pump hf f se p1 sse = g20_4 := (by rw [← eg20_4]; rfl)
  generalize eg20_5 : fw_sto_X5_settle hf to (sr_X1_setPump f p1) sto = g20_5 at hw
  replace eg20_5 : gv20_5_X5_pump hf f to p1 sto = g20_5 := (by rw [← eg20_5]; rfl)
  generalize eg20_6 : fw_sre_X5_settle hf re (sr_X1_setPump f p1) sre = g20_6 at hw
  replace eg20_6 : gv20_6_X5_pump hf f re p1 sre = g20_6 := (by rw [← eg20_6]; rfl)
  generalize eg20_7 : sw19_X5_settle f g17_1 (sr_X1_setPump f p1) = g20_7 at hw
  replace eg20_7 : gv20_7_X5_pump f p1 = g20_7 := (by rw [← eg20_7, ← eg17_1]; rfl)
  generalize eg20_8 : sw20_X5_settle se se (sr_X1_setPump f p1) = g20_8 at hw
  replace eg20_8 : gv20_8_X5_pump f se p1 = g20_8 := (by rw [← eg20_8]; rfl)
  generalize eg20_9 : sw21_X5_settle to to (sr_X1_setPump f p1) = g20_9 at hw
  replace eg20_9 : gv20_9_X5_pump f to p1 = g20_9 := (by rw [← eg20_9]; rfl)
  generalize eg20_10 : sw22_X5_settle re re (sr_X1_setPump f p1) = g20_10 at hw
  replace eg20_10 : gv20_10_X5_pump f re p1 = g20_10 := (by rw [← eg20_10]; rfl)
  subst hw
  have hP : va_P D vwCl [oX x0 h o t1 x1 y1 z1, oH x1 x2 g20_2, aL cL x2 (gS s0 s1 s2 s3), oL s0 s01 s02 s03 (g20_3 0), aI cI s01 3 (g20_4 0), aI cI s02 7 (g20_5 0), aI cI s03 60 (g20_6 0), oL s1 s11 s12 s13 (g20_3 1), aI cI s11 3 (g20_4 1), aI cI s12 7 (g20_5 1), aI cI s13 60 (g20_6 1), oL s2 s21 s22 s23 (g20_3 2), aI cI s21 3 (g20_4 2), aI cI s22 7 (g20_5 2), aI cI s23 60 (g20_6 2), oL s3 s31 s32 s33 (g20_3 3), aI cI s31 3 (g20_4 3), aI cI s32 7 (g20_5 3), aI cI s33 60 (g20_6 3), oL h h1 h2 h3 g20_7, aI cI h1 3 g20_8, aI cI h2 7 g20_9, aI cI h3 60 g20_10, oP z1 pf, oT y1 y2 tf, aC cC y2 60 ch, oL o o1 o2 o3 g17_1, aI cI o1 3 se, aI cI o2 7 to, aI cI o3 60 re, oK t1 kf] H := hP
  have hD : va_D A [oX x0 h o t1 x1 y1 z1, oH x1 x2 g20_2, aL cL x2 (gS s0 s1 s2 s3), oL s0 s01 s02 s03 (g20_3 0), aI cI s01 3 (g20_4 0), aI cI s02 7 (g20_5 0), aI cI s03 60 (g20_6 0), oL s1 s11 s12 s13 (g20_3 1), aI cI s11 3 (g20_4 1), aI cI s12 7 (g20_5 1), aI cI s13 60 (g20_6 1), oL s2 s21 s22 s23 (g20_3 2), aI cI s21 3 (g20_4 2), aI cI s22 7 (g20_5 2), aI cI s23 60 (g20_6 2), oL s3 s31 s32 s33 (g20_3 3), aI cI s31 3 (g20_4 3), aI cI s32 7 (g20_5 3), aI cI s33 60 (g20_6 3), oL h h1 h2 h3 g20_7, aI cI h1 3 g20_8, aI cI h2 7 g20_9, aI cI h3 60 g20_10, oP z1 pf, oT y1 y2 tf, aC cC y2 60 ch, oL o o1 o2 o3 g17_1, aI cI o1 3 se, aI cI o2 7 to, aI cI o3 60 re, oK t1 kf] := hD
  revert hP; revert hD; revert hS; revert hl
  subst eg20_10
  subst eg20_9
  subst eg20_8
  subst eg20_7
  subst eg20_6
  subst eg20_5
  subst eg20_4
  subst eg20_3
  subst eg20_2
  subst eg17_1
  intro hl hS hD hP
  exact ag_iret [x0, x1, x2, s0, s01, s02, s03, s1, s11, s12, s13, s2, s21, s22, s23, s3, s31, s32, s33, h, h1, h2, h3, z1, y1, y2, o, o1, o2, o3, t1] hx hb hr rfl hlocks hP hS rfl rfl ⟨rfl, (by show _ = _; rw [show fw_sf_X5_pump hf f p1 sf = (gv20_3_X5_pump hf f p1 sf) from rfl, show fw_sse_X5_pump hf f se p1 sse = (gv20_4_X5_pump hf f se p1 sse) from rfl, show fw_sto_X5_pump hf f to p1 sto = (gv20_5_X5_pump hf f to p1 sto) from rfl, show fw_sre_X5_pump hf f re p1 sre = (gv20_6_X5_pump hf f re p1 sre) from rfl, show sw1_X5_pump hf f p1 = (gv20_2_X5_pump hf f p1) from rfl, show sw19_X5_pump f p1 = (gv20_7_X5_pump f p1) from rfl, show sw20_X5_pump f se p1 = (gv20_8_X5_pump f se p1) from rfl, show sw21_X5_pump f to p1 = (gv20_9_X5_pump f to p1) from rfl, show sw22_X5_pump f re p1 = (gv20_10_X5_pump f re p1) from rfl, show sw26_X5_pump f p1 = (gv17_1_X5_pump f p1) from rfl, show sw27_X5_pump se = se from rfl, show sw28_X5_pump to = to from rfl, show sw29_X5_pump re = re from rfl])⟩ dX5_pump_23
def gv18_1_X5_birds (f : Nat → Int32) (p1 : Int32) (p2 : Int32) : Nat → Int32 := sw0_X1_setBirds f p1 p2
def gv21_2_X5_birds (hf : Nat → Int32) (p1 : Int32) (p2 : Int32) : Nat → Int32 := sw1_X5_settle hf (sr_X1_setBirds p1 p2)
def gv21_3_X5_birds (hf : Nat → Int32) (f : Nat → Int32) (p1 : Int32) (p2 : Int32) (sf : Nat → Nat → Int32) : Nat → Nat → Int32 := fw_sf_X5_settle hf f (sr_X1_setBirds p1 p2) sf
def gv21_4_X5_birds (hf : Nat → Int32) (se : Nat → Int32) (p1 : Int32) (p2 : Int32) (sse : Nat → Nat → Int32) : Nat → Nat → Int32 := fw_sse_X5_settle hf se (sr_X1_setBirds p1 p2) sse
def gv21_5_X5_birds (hf : Nat → Int32) (to : Nat → Int32) (p1 : Int32) (p2 : Int32) (sto : Nat → Nat → Int32) : Nat → Nat → Int32 := fw_sto_X5_settle hf to (sr_X1_setBirds p1 p2) sto
def gv21_6_X5_birds (hf : Nat → Int32) (re : Nat → Int32) (p1 : Int32) (p2 : Int32) (sre : Nat → Nat → Int32) : Nat → Nat → Int32 := fw_sre_X5_settle hf re (sr_X1_setBirds p1 p2) sre
def gv21_7_X5_birds (f : Nat → Int32) (p1 : Int32) (p2 : Int32) : Nat → Int32 := sw19_X5_settle f (gv18_1_X5_birds f p1 p2) (sr_X1_setBirds p1 p2)
def gv21_8_X5_birds (se : Nat → Int32) (p1 : Int32) (p2 : Int32) : Nat → Int32 := sw20_X5_settle se se (sr_X1_setBirds p1 p2)
def gv21_9_X5_birds (to : Nat → Int32) (p1 : Int32) (p2 : Int32) : Nat → Int32 := sw21_X5_settle to to (sr_X1_setBirds p1 p2)
def gv21_10_X5_birds (re : Nat → Int32) (p1 : Int32) (p2 : Int32) : Nat → Int32 := sw22_X5_settle re re (sr_X1_setBirds p1 p2)
def sr_X5_birds (p1 : Int32) (p2 : Int32) : Int32 := sr_X5_settle (sr_X1_setBirds p1 p2)
def fw_sf_X5_birds (hf : Nat → Int32) (f : Nat → Int32) (p1 : Int32) (p2 : Int32) (sf : Nat → Nat → Int32) : Nat → Nat → Int32 := (gv21_3_X5_birds hf f p1 p2 sf)
def fw_sse_X5_birds (hf : Nat → Int32) (se : Nat → Int32) (p1 : Int32) (p2 : Int32) (sse : Nat → Nat → Int32) : Nat → Nat → Int32 := (gv21_4_X5_birds hf se p1 p2 sse)
def fw_sto_X5_birds (hf : Nat → Int32) (to : Nat → Int32) (p1 : Int32) (p2 : Int32) (sto : Nat → Nat → Int32) : Nat → Nat → Int32 := (gv21_5_X5_birds hf to p1 p2 sto)
def fw_sre_X5_birds (hf : Nat → Int32) (re : Nat → Int32) (p1 : Int32) (p2 : Int32) (sre : Nat → Nat → Int32) : Nat → Nat → Int32 := (gv21_6_X5_birds hf re p1 p2 sre)
def sw1_X5_birds (hf : Nat → Int32) (p1 : Int32) (p2 : Int32) : Nat → Int32 := (gv21_2_X5_birds hf p1 p2)
def sw19_X5_birds (f : Nat → Int32) (p1 : Int32) (p2 : Int32) : Nat → Int32 := (gv21_7_X5_birds f p1 p2)
def sw20_X5_birds (se : Nat → Int32) (p1 : Int32) (p2 : Int32) : Nat → Int32 := (gv21_8_X5_birds se p1 p2)
def sw21_X5_birds (to : Nat → Int32) (p1 : Int32) (p2 : Int32) : Nat → Int32 := (gv21_9_X5_birds to p1 p2)
def sw22_X5_birds (re : Nat → Int32) (p1 : Int32) (p2 : Int32) : Nat → Int32 := (gv21_10_X5_birds re p1 p2)
def sw26_X5_birds (f : Nat → Int32) (p1 : Int32) (p2 : Int32) : Nat → Int32 := (gv18_1_X5_birds f p1 p2)
def sw27_X5_birds (se : Nat → Int32) : Nat → Int32 := se
def sw28_X5_birds (to : Nat → Int32) : Nat → Int32 := to
def sw29_X5_birds (re : Nat → Int32) : Nat → Int32 := re
abbrev po_X5_birds (cI cC cL : ClassId) (x0 h o t1 x1 y1 z1 x2 s0 s01 s02 s03 s1 s11 s12 s13 s2 s21 s22 s23 s3 s31 s32 s33 h1 h2 h3 y2 o1 o2 o3 : Nat) (hf f se to re pf tf ch of ose oto ore kf : Nat → Int32) (p1 : Int32) (p2 : Int32) (sf : Nat → Nat → Int32) (sse : Nat → Nat → Int32) (sto : Nat → Nat → Int32) (sre : Nat → Nat → Int32) : Int32 → va_W → Prop := fun r w' => sr_X5_birds p1 p2 = r ∧ [oX x0 h o t1 x1 y1 z1, oH x1 x2 (sw1_X5_birds hf p1 p2), aL cL x2 (gS s0 s1 s2 s3), oL s0 s01 s02 s03 (fw_sf_X5_birds hf f p1 p2 sf 0), aI cI s01 3 (fw_sse_X5_birds hf se p1 p2 sse 0), aI cI s02 7 (fw_sto_X5_birds hf to p1 p2 sto 0), aI cI s03 60 (fw_sre_X5_birds hf re p1 p2 sre 0), oL s1 s11 s12 s13 (fw_sf_X5_birds hf f p1 p2 sf 1), aI cI s11 3 (fw_sse_X5_birds hf se p1 p2 sse 1), aI cI s12 7 (fw_sto_X5_birds hf to p1 p2 sto 1), aI cI s13 60 (fw_sre_X5_birds hf re p1 p2 sre 1), oL s2 s21 s22 s23 (fw_sf_X5_birds hf f p1 p2 sf 2), aI cI s21 3 (fw_sse_X5_birds hf se p1 p2 sse 2), aI cI s22 7 (fw_sto_X5_birds hf to p1 p2 sto 2), aI cI s23 60 (fw_sre_X5_birds hf re p1 p2 sre 2), oL s3 s31 s32 s33 (fw_sf_X5_birds hf f p1 p2 sf 3), aI cI s31 3 (fw_sse_X5_birds hf se p1 p2 sse 3), aI cI s32 7 (fw_sto_X5_birds hf to p1 p2 sto 3), aI cI s33 60 (fw_sre_X5_birds hf re p1 p2 sre 3), oL h h1 h2 h3 (sw19_X5_birds f p1 p2), aI cI h1 3 (sw20_X5_birds se p1 p2), aI cI h2 7 (sw21_X5_birds to p1 p2), aI cI h3 60 (sw22_X5_birds re p1 p2), oP z1 pf, oT y1 y2 tf, aC cC y2 60 ch, oL o o1 o2 o3 (sw26_X5_birds f p1 p2), aI cI o1 3 (sw27_X5_birds se), aI cI o2 7 (sw28_X5_birds to), aI cI o3 60 (sw29_X5_birds re), oK t1 kf] = w'
set_option maxHeartbeats 4000000 in
set_option maxRecDepth 100000 in
theorem ct_X5_birds (l : Launch) (D : va_G) (cI cC cL : ClassId) (x0 h o t1 x1 y1 z1 x2 s0 s01 s02 s03 s1 s11 s12 s13 s2 s21 s22 s23 s3 s31 s32 s33 h1 h2 h3 y2 o1 o2 o3 : Nat) (hf f se to re pf tf ch of ose oto ore kf : Nat → Int32) (p1 : Int32) (p2 : Int32) (sf : Nat → Nat → Int32) (sse : Nat → Nat → Int32) (sto : Nat → Nat → Int32) (sre : Nat → Nat → Int32) : ag_MI l yX5_birds cX5_birds 3 .int 4 93 D cI cC cL [.ref x0, .int p1, .int p2] [oX x0 h o t1 x1 y1 z1, oH x1 x2 hf, aL cL x2 (gS s0 s1 s2 s3), oL s0 s01 s02 s03 (sf 0), aI cI s01 3 (sse 0), aI cI s02 7 (sto 0), aI cI s03 60 (sre 0), oL s1 s11 s12 s13 (sf 1), aI cI s11 3 (sse 1), aI cI s12 7 (sto 1), aI cI s13 60 (sre 1), oL s2 s21 s22 s23 (sf 2), aI cI s21 3 (sse 2), aI cI s22 7 (sto 2), aI cI s23 60 (sre 2), oL s3 s31 s32 s33 (sf 3), aI cI s31 3 (sse 3), aI cI s32 7 (sto 3), aI cI s33 60 (sre 3), oL h h1 h2 h3 f, aI cI h1 3 se, aI cI h2 7 to, aI cI h3 60 re, oP z1 pf, oT y1 y2 tf, aC cC y2 60 ch, oL o o1 o2 o3 of, aI cI o1 3 ose, aI cI o2 7 oto, aI cI o3 60 ore, oK t1 kf] (po_X5_birds cI cC cL x0 h o t1 x1 y1 z1 x2 s0 s01 s02 s03 s1 s11 s12 s13 s2 s21 s22 s23 s3 s31 s32 s33 h1 h2 h3 y2 o1 o2 o3 hf f se to re pf tf ch of ose oto ore kf p1 p2 sf sse sto sre) := by
  refine ag_MI.of (plainFor_of_name (by decide)) (Nat.le_of_ble_eq_true rfl) ?_
  intro p e s m below meth c hx hb hr hlocks hml hown hmn hG hK A hN hA H locs hP hD hS ls hl
  have hl : lv_has ls 3 [(0, .ref x0), (1, .int p1), (2, .int p2)] := hl
  refine lv_aload_n hx hb dX5_birds_0 rfl (lv_at hl 0 rfl) ?_
  refine ag_getX5 (v := .ref o) hx hb hG hown hK hP 0 1 rfl (by decide) k_177 rfl dX5_birds_1 ?_
  refine lv_aload_n hx hb dX5_birds_4 rfl (lv_at hl 0 rfl) ?_
  refine ag_getX5 (v := .ref h) hx hb hG hown hK hP 0 0 rfl (by decide) k_176 rfl dX5_birds_5 ?_
  refine ag_callVv (As := [.ref h]) (rest := []) hx hb hml hown hG hK hN hA hP hD hS hl (ct_X1_copyFrom l D cI cC cL o h o1 o2 o3 h1 h2 h3 of ose oto ore f se to re) fX1_copyFrom k_255 (ag_cut_2s 4 [oX x0 h o t1 x1 y1 z1, oH x1 x2 hf, aL cL x2 (gS s0 s1 s2 s3), oL s0 s01 s02 s03 (sf 0), aI cI s01 3 (sse 0), aI cI s02 7 (sto 0), aI cI s03 60 (sre 0), oL s1 s11 s12 s13 (sf 1), aI cI s11 3 (sse 1), aI cI s12 7 (sto 1), aI cI s13 60 (sre 1), oL s2 s21 s22 s23 (sf 2), aI cI s21 3 (sse 2), aI cI s22 7 (sto 2), aI cI s23 60 (sre 2), oL s3 s31 s32 s33 (sf 3), aI cI s31 3 (sse 3), aI cI s32 7 (sto 3), aI cI s33 60 (sre 3)] [oL o o1 o2 o3 of, aI cI o1 3 ose, aI cI o2 7 oto, aI cI o3 60 ore] [oP z1 pf, oT y1 y2 tf, aC cC y2 60 ch] [oL h h1 h2 h3 f, aI cI h1 3 se, aI cI h2 7 to, aI cI h3 60 re] [oK t1 kf] rfl rfl rfl) (q0 := 26) rfl rfl rfl rfl (Nat.le_of_ble_eq_true rfl) ⟨Nat.le_of_ble_eq_true rfl, Nat.le_of_ble_eq_true rfl⟩ ⟨Nat.zero_le _, Nat.zero_le _⟩ dX5_birds_8 (fun w1 H locs hw hP hD hS => ?_)
  have hw : _ = w1 := hw
  subst hw
  have hP : va_P D vwCl [oX x0 h o t1 x1 y1 z1, oH x1 x2 hf, aL cL x2 (gS s0 s1 s2 s3), oL s0 s01 s02 s03 (sf 0), aI cI s01 3 (sse 0), aI cI s02 7 (sto 0), aI cI s03 60 (sre 0), oL s1 s11 s12 s13 (sf 1), aI cI s11 3 (sse 1), aI cI s12 7 (sto 1), aI cI s13 60 (sre 1), oL s2 s21 s22 s23 (sf 2), aI cI s21 3 (sse 2), aI cI s22 7 (sto 2), aI cI s23 60 (sre 2), oL s3 s31 s32 s33 (sf 3), aI cI s31 3 (sse 3), aI cI s32 7 (sto 3), aI cI s33 60 (sre 3), oL h h1 h2 h3 f, aI cI h1 3 se, aI cI h2 7 to, aI cI h3 60 re, oP z1 pf, oT y1 y2 tf, aC cC y2 60 ch, oL o o1 o2 o3 f, aI cI o1 3 se, aI cI o2 7 to, aI cI o3 60 re, oK t1 kf] H := hP
  have hD : va_D A [oX x0 h o t1 x1 y1 z1, oH x1 x2 hf, aL cL x2 (gS s0 s1 s2 s3), oL s0 s01 s02 s03 (sf 0), aI cI s01 3 (sse 0), aI cI s02 7 (sto 0), aI cI s03 60 (sre 0), oL s1 s11 s12 s13 (sf 1), aI cI s11 3 (sse 1), aI cI s12 7 (sto 1), aI cI s13 60 (sre 1), oL s2 s21 s22 s23 (sf 2), aI cI s21 3 (sse 2), aI cI s22 7 (sto 2), aI cI s23 60 (sre 2), oL s3 s31 s32 s33 (sf 3), aI cI s31 3 (sse 3), aI cI s32 7 (sto 3), aI cI s33 60 (sre 3), oL h h1 h2 h3 f, aI cI h1 3 se, aI cI h2 7 to, aI cI h3 60 re, oP z1 pf, oT y1 y2 tf, aC cC y2 60 ch, oL o o1 o2 o3 f, aI cI o1 3 se, aI cI o2 7 to, aI cI o3 60 re, oK t1 kf] := hD
  refine lv_aload_n hx hb dX5_birds_11 rfl (lv_at hl 0 rfl) ?_
  refine lv_aload_n hx hb dX5_birds_12 rfl (lv_at hl 0 rfl) ?_
  refine ag_getX5 (v := .ref o) hx hb hG hown hK hP 0 1 rfl (by decide) k_177 rfl dX5_birds_13 ?_
  refine lv_iload_n hx hb dX5_birds_16 rfl (lv_at hl 1 rfl) ?_
  refine lv_iload_n hx hb dX5_birds_17 rfl (lv_at hl 2 rfl) ?_
  refine ag_callVi (As := [.int p1, .int p2]) (rest := [.ref x0]) hx hb hml hown hG hK hN hA hP hD hS hl (ct_X1_setBirds l D cI cC cL o o1 o2 o3 f se to re p1 p2) fX1_setBirds k_306 (ag_cut_1 [oX x0 h o t1 x1 y1 z1, oH x1 x2 hf, aL cL x2 (gS s0 s1 s2 s3), oL s0 s01 s02 s03 (sf 0), aI cI s01 3 (sse 0), aI cI s02 7 (sto 0), aI cI s03 60 (sre 0), oL s1 s11 s12 s13 (sf 1), aI cI s11 3 (sse 1), aI cI s12 7 (sto 1), aI cI s13 60 (sre 1), oL s2 s21 s22 s23 (sf 2), aI cI s21 3 (sse 2), aI cI s22 7 (sto 2), aI cI s23 60 (sre 2), oL s3 s31 s32 s33 (sf 3), aI cI s31 3 (sse 3), aI cI s32 7 (sto 3), aI cI s33 60 (sre 3), oL h h1 h2 h3 f, aI cI h1 3 se, aI cI h2 7 to, aI cI h3 60 re, oP z1 pf, oT y1 y2 tf, aC cC y2 60 ch] [oK t1 kf] rfl) (q0 := 26) rfl rfl rfl rfl (Nat.le_of_ble_eq_true rfl) ⟨Nat.le_of_ble_eq_true rfl, Nat.le_of_ble_eq_true rfl⟩ ⟨Nat.zero_le _, Nat.zero_le _⟩ dX5_birds_18 (fun r w1 H locs hw hP hD hS => ?_)
  obtain ⟨rfl, hw⟩ := hw
  generalize eg18_1 : sw0_X1_setBirds f p1 p2 = g18_1 at hw
  replace eg18_1 : gv18_1_X5_birds f p1 p2 = g18_1 := (by rw [← eg18_1]; rfl)
  subst hw
  have hP : va_P D vwCl [oX x0 h o t1 x1 y1 z1, oH x1 x2 hf, aL cL x2 (gS s0 s1 s2 s3), oL s0 s01 s02 s03 (sf 0), aI cI s01 3 (sse 0), aI cI s02 7 (sto 0), aI cI s03 60 (sre 0), oL s1 s11 s12 s13 (sf 1), aI cI s11 3 (sse 1), aI cI s12 7 (sto 1), aI cI s13 60 (sre 1), oL s2 s21 s22 s23 (sf 2), aI cI s21 3 (sse 2), aI cI s22 7 (sto 2), aI cI s23 60 (sre 2), oL s3 s31 s32 s33 (sf 3), aI cI s31 3 (sse 3), aI cI s32 7 (sto 3), aI cI s33 60 (sre 3), oL h h1 h2 h3 f, aI cI h1 3 se, aI cI h2 7 to, aI cI h3 60 re, oP z1 pf, oT y1 y2 tf, aC cC y2 60 ch, oL o o1 o2 o3 g18_1, aI cI o1 3 se, aI cI o2 7 to, aI cI o3 60 re, oK t1 kf] H := hP
  have hD : va_D A [oX x0 h o t1 x1 y1 z1, oH x1 x2 hf, aL cL x2 (gS s0 s1 s2 s3), oL s0 s01 s02 s03 (sf 0), aI cI s01 3 (sse 0), aI cI s02 7 (sto 0), aI cI s03 60 (sre 0), oL s1 s11 s12 s13 (sf 1), aI cI s11 3 (sse 1), aI cI s12 7 (sto 1), aI cI s13 60 (sre 1), oL s2 s21 s22 s23 (sf 2), aI cI s21 3 (sse 2), aI cI s22 7 (sto 2), aI cI s23 60 (sre 2), oL s3 s31 s32 s33 (sf 3), aI cI s31 3 (sse 3), aI cI s32 7 (sto 3), aI cI s33 60 (sre 3), oL h h1 h2 h3 f, aI cI h1 3 se, aI cI h2 7 to, aI cI h3 60 re, oP z1 pf, oT y1 y2 tf, aC cC y2 60 ch, oL o o1 o2 o3 g18_1, aI cI o1 3 se, aI cI o2 7 to, aI cI o3 60 re, oK t1 kf] := hD
  refine ag_callVi (As := [.int (sr_X1_setBirds p1 p2)]) (rest := []) hx hb hml hown hG hK hN hA hP hD hS hl (ct_X5_settle l D cI cC cL x0 h o t1 x1 y1 z1 x2 s0 s01 s02 s03 s1 s11 s12 s13 s2 s21 s22 s23 s3 s31 s32 s33 h1 h2 h3 y2 o1 o2 o3 hf f se to re pf tf ch g18_1 se to re kf (sr_X1_setBirds p1 p2) sf sse sto sre) fX5_settle k_267 ag_cut_all (q0 := 0) rfl rfl rfl rfl (Nat.le_of_ble_eq_true rfl) ⟨Nat.le_of_ble_eq_true rfl, Nat.le_of_ble_eq_true rfl⟩ ⟨Nat.zero_le _, Nat.zero_le _⟩ dX5_birds_21 (fun r w1 H locs hw hP hD hS => ?_)
  obtain ⟨rfl, hw⟩ := hw
  generalize eg21_2 : sw1_X5_settle hf (sr_X1_setBirds p1 p2) = g21_2 at hw
  replace eg21_2 : gv21_2_X5_birds hf p1 p2 = g21_2 := (by rw [← eg21_2]; rfl)
  generalize eg21_3 : fw_sf_X5_settle hf f (sr_X1_setBirds p1 p2) sf = g21_3 at hw
  replace eg21_3 : gv21_3_X5_birds hf f p1 p2 sf = g21_3 := (by rw [← eg21_3]; rfl)
  generalize eg21_4 : fw_sse_X5_settle hf se (sr_X1_setBirds p1 p2) sse = g21_4 at hw
  replace eg21_4 : gv21_4_X5_birds hf se p1 p2 sse = g21_4 := (by rw [← eg21_4]; rfl)
  generalize eg21_5 : fw_sto_X5_settle hf to (sr_X1_setBirds p1 p2) sto = g21_5 at hw
  replace eg21_5 : gv21_5_X5_birds hf to p1 p2 sto = g21_5 := (by rw [← eg21_5]; rfl)
  generalize eg21_6 : fw_sre_X5_settle hf re (sr_X1_setBirds p1 p2) sre = g21_6 at hw
  replace eg21_6 : gv21_6_X5_birds hf re p1 p2 sre = g21_6 := (by rw [← eg21_6]; rfl)
  generalize eg21_7 : sw19_X5_settle f g18_1 (sr_X1_setBirds p1 p2) = g21_7 at hw
  replace eg21_7 : gv21_7_X5_birds f p1 p2 = g21_7 := (by rw [← eg21_7, ← eg18_1]; rfl)
  generalize eg21_8 : sw20_X5_settle se se (sr_X1_setBirds p1 p2) = g21_8 at hw
  replace eg21_8 : gv21_8_X5_birds se p1 p2 = g21_8 := (by rw [← eg21_8]; rfl)
  generalize eg21_9 : sw21_X5_settle to to (sr_X1_setBirds p1 p2) = g21_9 at hw
  replace eg21_9 : gv21_9_X5_birds to p1 p2 = g21_9 := (by rw [← eg21_9]; rfl)
  generalize eg21_10 : sw22_X5_settle re re (sr_X1_setBirds p1 p2) = g21_10 at hw
  replace eg21_10 : gv21_10_X5_birds re p1 p2 = g21_10 := (by rw [← eg21_10]; rfl)
  subst hw
  have hP : va_P D vwCl [oX x0 h o t1 x1 y1 z1, oH x1 x2 g21_2, aL cL x2 (gS s0 s1 s2 s3), oL s0 s01 s02 s03 (g21_3 0), aI cI s01 3 (g21_4 0), aI cI s02 7 (g21_5 0), aI cI s03 60 (g21_6 0), oL s1 s11 s12 s13 (g21_3 1), aI cI s11 3 (g21_4 1), aI cI s12 7 (g21_5 1), aI cI s13 60 (g21_6 1), oL s2 s21 s22 s23 (g21_3 2), aI cI s21 3 (g21_4 2), aI cI s22 7 (g21_5 2), aI cI s23 60 (g21_6 2), oL s3 s31 s32 s33 (g21_3 3), aI cI s31 3 (g21_4 3), aI cI s32 7 (g21_5 3), aI cI s33 60 (g21_6 3), oL h h1 h2 h3 g21_7, aI cI h1 3 g21_8, aI cI h2 7 g21_9, aI cI h3 60 g21_10, oP z1 pf, oT y1 y2 tf, aC cC y2 60 ch, oL o o1 o2 o3 g18_1, aI cI o1 3 se, aI cI o2 7 to, aI cI o3 60 re, oK t1 kf] H := hP
  have hD : va_D A [oX x0 h o t1 x1 y1 z1, oH x1 x2 g21_2, aL cL x2 (gS s0 s1 s2 s3), oL s0 s01 s02 s03 (g21_3 0), aI cI s01 3 (g21_4 0), aI cI s02 7 (g21_5 0), aI cI s03 60 (g21_6 0), oL s1 s11 s12 s13 (g21_3 1), aI cI s11 3 (g21_4 1), aI cI s12 7 (g21_5 1), aI cI s13 60 (g21_6 1), oL s2 s21 s22 s23 (g21_3 2), aI cI s21 3 (g21_4 2), aI cI s22 7 (g21_5 2), aI cI s23 60 (g21_6 2), oL s3 s31 s32 s33 (g21_3 3), aI cI s31 3 (g21_4 3), aI cI s32 7 (g21_5 3), aI cI s33 60 (g21_6 3), oL h h1 h2 h3 g21_7, aI cI h1 3 g21_8, aI cI h2 7 g21_9, aI cI h3 60 g21_10, oP z1 pf, oT y1 y2 tf, aC cC y2 60 ch, oL o o1 o2 o3 g18_1, aI cI o1 3 se, aI cI o2 7 to, aI cI o3 60 re, oK t1 kf] := hD
  revert hP; revert hD; revert hS; revert hl
  subst eg21_10
  subst eg21_9
  subst eg21_8
  subst eg21_7
  subst eg21_6
  subst eg21_5
  subst eg21_4
  subst eg21_3
  subst eg21_2
  subst eg18_1
  intro hl hS hD hP
  exact ag_iret [x0, x1, x2, s0, s01, s02, s03, s1, s11, s12, s13, s2, s21, s22, s23, s3, s31, s32, s33, h, h1, h2, h3, z1, y1, y2, o, o1, o2, o3, t1] hx hb hr rfl hlocks hP hS rfl rfl ⟨rfl, (by show _ = _; rw [show fw_sf_X5_birds hf f p1 p2 sf = (gv21_3_X5_birds hf f p1 p2 sf) from rfl, show fw_sse_X5_birds hf se p1 p2 sse = (gv21_4_X5_birds hf se p1 p2 sse) from rfl, show fw_sto_X5_birds hf to p1 p2 sto = (gv21_5_X5_birds hf to p1 p2 sto) from rfl, show fw_sre_X5_birds hf re p1 p2 sre = (gv21_6_X5_birds hf re p1 p2 sre) from rfl, show sw1_X5_birds hf p1 p2 = (gv21_2_X5_birds hf p1 p2) from rfl, show sw19_X5_birds f p1 p2 = (gv21_7_X5_birds f p1 p2) from rfl, show sw20_X5_birds se p1 p2 = (gv21_8_X5_birds se p1 p2) from rfl, show sw21_X5_birds to p1 p2 = (gv21_9_X5_birds to p1 p2) from rfl, show sw22_X5_birds re p1 p2 = (gv21_10_X5_birds re p1 p2) from rfl, show sw26_X5_birds f p1 p2 = (gv18_1_X5_birds f p1 p2) from rfl, show sw27_X5_birds se = se from rfl, show sw28_X5_birds to = to from rfl, show sw29_X5_birds re = re from rfl])⟩ dX5_birds_24
def gv21_1_X5_run (f : Nat → Int32) (se : Nat → Int32) (to : Nat → Int32) (re : Nat → Int32) (kf : Nat → Int32) (p1 : Int32) : Nat → Int32 := sw0_X1_runTicks f se to re kf p1
def gv21_2_X5_run (f : Nat → Int32) (se : Nat → Int32) (to : Nat → Int32) (re : Nat → Int32) (kf : Nat → Int32) (p1 : Int32) : Nat → Int32 := sw2_X1_runTicks f se to re kf p1
def gv21_3_X5_run (f : Nat → Int32) (se : Nat → Int32) (to : Nat → Int32) (re : Nat → Int32) (kf : Nat → Int32) (p1 : Int32) : Nat → Int32 := sw3_X1_runTicks f se to re kf p1
def gv21_4_X5_run (f : Nat → Int32) (se : Nat → Int32) (to : Nat → Int32) (re : Nat → Int32) (kf : Nat → Int32) (p1 : Int32) : Nat → Int32 := sw4_X1_runTicks f se to re kf p1
def gv24_5_X5_run (hf : Nat → Int32) (f : Nat → Int32) (se : Nat → Int32) (to : Nat → Int32) (re : Nat → Int32) (kf : Nat → Int32) (p1 : Int32) : Nat → Int32 := sw1_X5_settle hf (sr_X1_runTicks f se to re kf p1)
def gv24_6_X5_run (hf : Nat → Int32) (f : Nat → Int32) (se : Nat → Int32) (to : Nat → Int32) (re : Nat → Int32) (kf : Nat → Int32) (p1 : Int32) (sf : Nat → Nat → Int32) : Nat → Nat → Int32 := fw_sf_X5_settle hf f (sr_X1_runTicks f se to re kf p1) sf
def gv24_7_X5_run (hf : Nat → Int32) (f : Nat → Int32) (se : Nat → Int32) (to : Nat → Int32) (re : Nat → Int32) (kf : Nat → Int32) (p1 : Int32) (sse : Nat → Nat → Int32) : Nat → Nat → Int32 := fw_sse_X5_settle hf se (sr_X1_runTicks f se to re kf p1) sse
def gv24_8_X5_run (hf : Nat → Int32) (f : Nat → Int32) (se : Nat → Int32) (to : Nat → Int32) (re : Nat → Int32) (kf : Nat → Int32) (p1 : Int32) (sto : Nat → Nat → Int32) : Nat → Nat → Int32 := fw_sto_X5_settle hf to (sr_X1_runTicks f se to re kf p1) sto
def gv24_9_X5_run (hf : Nat → Int32) (f : Nat → Int32) (se : Nat → Int32) (to : Nat → Int32) (re : Nat → Int32) (kf : Nat → Int32) (p1 : Int32) (sre : Nat → Nat → Int32) : Nat → Nat → Int32 := fw_sre_X5_settle hf re (sr_X1_runTicks f se to re kf p1) sre
def gv24_10_X5_run (f : Nat → Int32) (se : Nat → Int32) (to : Nat → Int32) (re : Nat → Int32) (kf : Nat → Int32) (p1 : Int32) : Nat → Int32 := sw19_X5_settle f (gv21_1_X5_run f se to re kf p1) (sr_X1_runTicks f se to re kf p1)
def gv24_11_X5_run (f : Nat → Int32) (se : Nat → Int32) (to : Nat → Int32) (re : Nat → Int32) (kf : Nat → Int32) (p1 : Int32) : Nat → Int32 := sw20_X5_settle se se (sr_X1_runTicks f se to re kf p1)
def gv24_12_X5_run (f : Nat → Int32) (se : Nat → Int32) (to : Nat → Int32) (re : Nat → Int32) (kf : Nat → Int32) (p1 : Int32) : Nat → Int32 := sw21_X5_settle to (gv21_2_X5_run f se to re kf p1) (sr_X1_runTicks f se to re kf p1)
def gv24_13_X5_run (f : Nat → Int32) (se : Nat → Int32) (to : Nat → Int32) (re : Nat → Int32) (kf : Nat → Int32) (p1 : Int32) : Nat → Int32 := sw22_X5_settle re (gv21_3_X5_run f se to re kf p1) (sr_X1_runTicks f se to re kf p1)
def sr_X5_run (f : Nat → Int32) (se : Nat → Int32) (to : Nat → Int32) (re : Nat → Int32) (kf : Nat → Int32) (p1 : Int32) : Int32 := sr_X5_settle (sr_X1_runTicks f se to re kf p1)
def fw_sf_X5_run (hf : Nat → Int32) (f : Nat → Int32) (se : Nat → Int32) (to : Nat → Int32) (re : Nat → Int32) (kf : Nat → Int32) (p1 : Int32) (sf : Nat → Nat → Int32) : Nat → Nat → Int32 := (gv24_6_X5_run hf f se to re kf p1 sf)
def fw_sse_X5_run (hf : Nat → Int32) (f : Nat → Int32) (se : Nat → Int32) (to : Nat → Int32) (re : Nat → Int32) (kf : Nat → Int32) (p1 : Int32) (sse : Nat → Nat → Int32) : Nat → Nat → Int32 := (gv24_7_X5_run hf f se to re kf p1 sse)
def fw_sto_X5_run (hf : Nat → Int32) (f : Nat → Int32) (se : Nat → Int32) (to : Nat → Int32) (re : Nat → Int32) (kf : Nat → Int32) (p1 : Int32) (sto : Nat → Nat → Int32) : Nat → Nat → Int32 := (gv24_8_X5_run hf f se to re kf p1 sto)
def fw_sre_X5_run (hf : Nat → Int32) (f : Nat → Int32) (se : Nat → Int32) (to : Nat → Int32) (re : Nat → Int32) (kf : Nat → Int32) (p1 : Int32) (sre : Nat → Nat → Int32) : Nat → Nat → Int32 := (gv24_9_X5_run hf f se to re kf p1 sre)
def sw1_X5_run (hf : Nat → Int32) (f : Nat → Int32) (se : Nat → Int32) (to : Nat → Int32) (re : Nat → Int32) (kf : Nat → Int32) (p1 : Int32) : Nat → Int32 := (gv24_5_X5_run hf f se to re kf p1)
def sw19_X5_run (f : Nat → Int32) (se : Nat → Int32) (to : Nat → Int32) (re : Nat → Int32) (kf : Nat → Int32) (p1 : Int32) : Nat → Int32 := (gv24_10_X5_run f se to re kf p1)
def sw20_X5_run (f : Nat → Int32) (se : Nat → Int32) (to : Nat → Int32) (re : Nat → Int32) (kf : Nat → Int32) (p1 : Int32) : Nat → Int32 := (gv24_11_X5_run f se to re kf p1)
def sw21_X5_run (f : Nat → Int32) (se : Nat → Int32) (to : Nat → Int32) (re : Nat → Int32) (kf : Nat → Int32) (p1 : Int32) : Nat → Int32 := (gv24_12_X5_run f se to re kf p1)
def sw22_X5_run (f : Nat → Int32) (se : Nat → Int32) (to : Nat → Int32) (re : Nat → Int32) (kf : Nat → Int32) (p1 : Int32) : Nat → Int32 := (gv24_13_X5_run f se to re kf p1)
def sw26_X5_run (f : Nat → Int32) (se : Nat → Int32) (to : Nat → Int32) (re : Nat → Int32) (kf : Nat → Int32) (p1 : Int32) : Nat → Int32 := (gv21_1_X5_run f se to re kf p1)
def sw27_X5_run (se : Nat → Int32) : Nat → Int32 := se
def sw28_X5_run (f : Nat → Int32) (se : Nat → Int32) (to : Nat → Int32) (re : Nat → Int32) (kf : Nat → Int32) (p1 : Int32) : Nat → Int32 := (gv21_2_X5_run f se to re kf p1)
def sw29_X5_run (f : Nat → Int32) (se : Nat → Int32) (to : Nat → Int32) (re : Nat → Int32) (kf : Nat → Int32) (p1 : Int32) : Nat → Int32 := (gv21_3_X5_run f se to re kf p1)
def sw30_X5_run (f : Nat → Int32) (se : Nat → Int32) (to : Nat → Int32) (re : Nat → Int32) (kf : Nat → Int32) (p1 : Int32) : Nat → Int32 := (gv21_4_X5_run f se to re kf p1)
abbrev po_X5_run (cI cC cL : ClassId) (x0 h o t1 x1 y1 z1 x2 s0 s01 s02 s03 s1 s11 s12 s13 s2 s21 s22 s23 s3 s31 s32 s33 h1 h2 h3 y2 o1 o2 o3 : Nat) (hf f se to re pf tf ch of ose oto ore kf : Nat → Int32) (p1 : Int32) (sf : Nat → Nat → Int32) (sse : Nat → Nat → Int32) (sto : Nat → Nat → Int32) (sre : Nat → Nat → Int32) : Int32 → va_W → Prop := fun r w' => sr_X5_run f se to re kf p1 = r ∧ [oX x0 h o t1 x1 y1 z1, oH x1 x2 (sw1_X5_run hf f se to re kf p1), aL cL x2 (gS s0 s1 s2 s3), oL s0 s01 s02 s03 (fw_sf_X5_run hf f se to re kf p1 sf 0), aI cI s01 3 (fw_sse_X5_run hf f se to re kf p1 sse 0), aI cI s02 7 (fw_sto_X5_run hf f se to re kf p1 sto 0), aI cI s03 60 (fw_sre_X5_run hf f se to re kf p1 sre 0), oL s1 s11 s12 s13 (fw_sf_X5_run hf f se to re kf p1 sf 1), aI cI s11 3 (fw_sse_X5_run hf f se to re kf p1 sse 1), aI cI s12 7 (fw_sto_X5_run hf f se to re kf p1 sto 1), aI cI s13 60 (fw_sre_X5_run hf f se to re kf p1 sre 1), oL s2 s21 s22 s23 (fw_sf_X5_run hf f se to re kf p1 sf 2), aI cI s21 3 (fw_sse_X5_run hf f se to re kf p1 sse 2), aI cI s22 7 (fw_sto_X5_run hf f se to re kf p1 sto 2), aI cI s23 60 (fw_sre_X5_run hf f se to re kf p1 sre 2), oL s3 s31 s32 s33 (fw_sf_X5_run hf f se to re kf p1 sf 3), aI cI s31 3 (fw_sse_X5_run hf f se to re kf p1 sse 3), aI cI s32 7 (fw_sto_X5_run hf f se to re kf p1 sto 3), aI cI s33 60 (fw_sre_X5_run hf f se to re kf p1 sre 3), oL h h1 h2 h3 (sw19_X5_run f se to re kf p1), aI cI h1 3 (sw20_X5_run f se to re kf p1), aI cI h2 7 (sw21_X5_run f se to re kf p1), aI cI h3 60 (sw22_X5_run f se to re kf p1), oP z1 pf, oT y1 y2 tf, aC cC y2 60 ch, oL o o1 o2 o3 (sw26_X5_run f se to re kf p1), aI cI o1 3 (sw27_X5_run se), aI cI o2 7 (sw28_X5_run f se to re kf p1), aI cI o3 60 (sw29_X5_run f se to re kf p1), oK t1 (sw30_X5_run f se to re kf p1)] = w'
set_option maxHeartbeats 4000000 in
set_option maxRecDepth 100000 in
theorem ct_X5_run (l : Launch) (D : va_G) (cI cC cL : ClassId) (x0 h o t1 x1 y1 z1 x2 s0 s01 s02 s03 s1 s11 s12 s13 s2 s21 s22 s23 s3 s31 s32 s33 h1 h2 h3 y2 o1 o2 o3 : Nat) (hf f se to re pf tf ch of ose oto ore kf : Nat → Int32) (p1 : Int32) (sf : Nat → Nat → Int32) (sse : Nat → Nat → Int32) (sto : Nat → Nat → Int32) (sre : Nat → Nat → Int32) : ag_MI l yX5_run cX5_run 2 .int 5 110 D cI cC cL [.ref x0, .int p1] [oX x0 h o t1 x1 y1 z1, oH x1 x2 hf, aL cL x2 (gS s0 s1 s2 s3), oL s0 s01 s02 s03 (sf 0), aI cI s01 3 (sse 0), aI cI s02 7 (sto 0), aI cI s03 60 (sre 0), oL s1 s11 s12 s13 (sf 1), aI cI s11 3 (sse 1), aI cI s12 7 (sto 1), aI cI s13 60 (sre 1), oL s2 s21 s22 s23 (sf 2), aI cI s21 3 (sse 2), aI cI s22 7 (sto 2), aI cI s23 60 (sre 2), oL s3 s31 s32 s33 (sf 3), aI cI s31 3 (sse 3), aI cI s32 7 (sto 3), aI cI s33 60 (sre 3), oL h h1 h2 h3 f, aI cI h1 3 se, aI cI h2 7 to, aI cI h3 60 re, oP z1 pf, oT y1 y2 tf, aC cC y2 60 ch, oL o o1 o2 o3 of, aI cI o1 3 ose, aI cI o2 7 oto, aI cI o3 60 ore, oK t1 kf] (po_X5_run cI cC cL x0 h o t1 x1 y1 z1 x2 s0 s01 s02 s03 s1 s11 s12 s13 s2 s21 s22 s23 s3 s31 s32 s33 h1 h2 h3 y2 o1 o2 o3 hf f se to re pf tf ch of ose oto ore kf p1 sf sse sto sre) := by
  refine ag_MI.of (plainFor_of_name (by decide)) (Nat.le_of_ble_eq_true rfl) ?_
  intro p e s m below meth c hx hb hr hlocks hml hown hmn hG hK A hN hA H locs hP hD hS ls hl
  have hl : lv_has ls 2 [(0, .ref x0), (1, .int p1)] := hl
  refine lv_aload_n hx hb dX5_run_0 rfl (lv_at hl 0 rfl) ?_
  refine ag_getX5 (v := .ref o) hx hb hG hown hK hP 0 1 rfl (by decide) k_177 rfl dX5_run_1 ?_
  refine lv_aload_n hx hb dX5_run_4 rfl (lv_at hl 0 rfl) ?_
  refine ag_getX5 (v := .ref h) hx hb hG hown hK hP 0 0 rfl (by decide) k_176 rfl dX5_run_5 ?_
  refine ag_callVv (As := [.ref h]) (rest := []) hx hb hml hown hG hK hN hA hP hD hS hl (ct_X1_copyFrom l D cI cC cL o h o1 o2 o3 h1 h2 h3 of ose oto ore f se to re) fX1_copyFrom k_255 (ag_cut_2s 4 [oX x0 h o t1 x1 y1 z1, oH x1 x2 hf, aL cL x2 (gS s0 s1 s2 s3), oL s0 s01 s02 s03 (sf 0), aI cI s01 3 (sse 0), aI cI s02 7 (sto 0), aI cI s03 60 (sre 0), oL s1 s11 s12 s13 (sf 1), aI cI s11 3 (sse 1), aI cI s12 7 (sto 1), aI cI s13 60 (sre 1), oL s2 s21 s22 s23 (sf 2), aI cI s21 3 (sse 2), aI cI s22 7 (sto 2), aI cI s23 60 (sre 2), oL s3 s31 s32 s33 (sf 3), aI cI s31 3 (sse 3), aI cI s32 7 (sto 3), aI cI s33 60 (sre 3)] [oL o o1 o2 o3 of, aI cI o1 3 ose, aI cI o2 7 oto, aI cI o3 60 ore] [oP z1 pf, oT y1 y2 tf, aC cC y2 60 ch] [oL h h1 h2 h3 f, aI cI h1 3 se, aI cI h2 7 to, aI cI h3 60 re] [oK t1 kf] rfl rfl rfl) (q0 := 26) rfl rfl rfl rfl (Nat.le_of_ble_eq_true rfl) ⟨Nat.le_of_ble_eq_true rfl, Nat.le_of_ble_eq_true rfl⟩ ⟨Nat.zero_le _, Nat.zero_le _⟩ dX5_run_8 (fun w1 H locs hw hP hD hS => ?_)
  have hw : _ = w1 := hw
  subst hw
  have hP : va_P D vwCl [oX x0 h o t1 x1 y1 z1, oH x1 x2 hf, aL cL x2 (gS s0 s1 s2 s3), oL s0 s01 s02 s03 (sf 0), aI cI s01 3 (sse 0), aI cI s02 7 (sto 0), aI cI s03 60 (sre 0), oL s1 s11 s12 s13 (sf 1), aI cI s11 3 (sse 1), aI cI s12 7 (sto 1), aI cI s13 60 (sre 1), oL s2 s21 s22 s23 (sf 2), aI cI s21 3 (sse 2), aI cI s22 7 (sto 2), aI cI s23 60 (sre 2), oL s3 s31 s32 s33 (sf 3), aI cI s31 3 (sse 3), aI cI s32 7 (sto 3), aI cI s33 60 (sre 3), oL h h1 h2 h3 f, aI cI h1 3 se, aI cI h2 7 to, aI cI h3 60 re, oP z1 pf, oT y1 y2 tf, aC cC y2 60 ch, oL o o1 o2 o3 f, aI cI o1 3 se, aI cI o2 7 to, aI cI o3 60 re, oK t1 kf] H := hP
  have hD : va_D A [oX x0 h o t1 x1 y1 z1, oH x1 x2 hf, aL cL x2 (gS s0 s1 s2 s3), oL s0 s01 s02 s03 (sf 0), aI cI s01 3 (sse 0), aI cI s02 7 (sto 0), aI cI s03 60 (sre 0), oL s1 s11 s12 s13 (sf 1), aI cI s11 3 (sse 1), aI cI s12 7 (sto 1), aI cI s13 60 (sre 1), oL s2 s21 s22 s23 (sf 2), aI cI s21 3 (sse 2), aI cI s22 7 (sto 2), aI cI s23 60 (sre 2), oL s3 s31 s32 s33 (sf 3), aI cI s31 3 (sse 3), aI cI s32 7 (sto 3), aI cI s33 60 (sre 3), oL h h1 h2 h3 f, aI cI h1 3 se, aI cI h2 7 to, aI cI h3 60 re, oP z1 pf, oT y1 y2 tf, aC cC y2 60 ch, oL o o1 o2 o3 f, aI cI o1 3 se, aI cI o2 7 to, aI cI o3 60 re, oK t1 kf] := hD
  refine lv_aload_n hx hb dX5_run_11 rfl (lv_at hl 0 rfl) ?_
  refine lv_aload_n hx hb dX5_run_12 rfl (lv_at hl 0 rfl) ?_
  refine ag_getX5 (v := .ref o) hx hb hG hown hK hP 0 1 rfl (by decide) k_177 rfl dX5_run_13 ?_
  refine lv_iload_n hx hb dX5_run_16 rfl (lv_at hl 1 rfl) ?_
  refine lv_aload_n hx hb dX5_run_17 rfl (lv_at hl 0 rfl) ?_
  refine ag_getX5 (v := .ref t1) hx hb hG hown hK hP 0 2 rfl (by decide) k_178 rfl dX5_run_18 ?_
  refine ag_callVi (As := [.int p1, .ref t1]) (rest := [.ref x0]) hx hb hml hown hG hK hN hA hP hD hS hl (ct_X1_runTicks l D cI cC cL o t1 o1 o2 o3 f se to re kf p1) fX1_runTicks k_336 (ag_cut_1 [oX x0 h o t1 x1 y1 z1, oH x1 x2 hf, aL cL x2 (gS s0 s1 s2 s3), oL s0 s01 s02 s03 (sf 0), aI cI s01 3 (sse 0), aI cI s02 7 (sto 0), aI cI s03 60 (sre 0), oL s1 s11 s12 s13 (sf 1), aI cI s11 3 (sse 1), aI cI s12 7 (sto 1), aI cI s13 60 (sre 1), oL s2 s21 s22 s23 (sf 2), aI cI s21 3 (sse 2), aI cI s22 7 (sto 2), aI cI s23 60 (sre 2), oL s3 s31 s32 s33 (sf 3), aI cI s31 3 (sse 3), aI cI s32 7 (sto 3), aI cI s33 60 (sre 3), oL h h1 h2 h3 f, aI cI h1 3 se, aI cI h2 7 to, aI cI h3 60 re, oP z1 pf, oT y1 y2 tf, aC cC y2 60 ch] [] rfl) (q0 := 26) rfl rfl rfl rfl (Nat.le_of_ble_eq_true rfl) ⟨Nat.le_of_ble_eq_true rfl, Nat.le_of_ble_eq_true rfl⟩ ⟨Nat.zero_le _, Nat.zero_le _⟩ dX5_run_21 (fun r w1 H locs hw hP hD hS => ?_)
  obtain ⟨rfl, hw⟩ := hw
  generalize eg21_1 : sw0_X1_runTicks f se to re kf p1 = g21_1 at hw
  replace eg21_1 : gv21_1_X5_run f se to re kf p1 = g21_1 := (by rw [← eg21_1]; rfl)
  generalize eg21_2 : sw2_X1_runTicks f se to re kf p1 = g21_2 at hw
  replace eg21_2 : gv21_2_X5_run f se to re kf p1 = g21_2 := (by rw [← eg21_2]; rfl)
  generalize eg21_3 : sw3_X1_runTicks f se to re kf p1 = g21_3 at hw
  replace eg21_3 : gv21_3_X5_run f se to re kf p1 = g21_3 := (by rw [← eg21_3]; rfl)
  generalize eg21_4 : sw4_X1_runTicks f se to re kf p1 = g21_4 at hw
  replace eg21_4 : gv21_4_X5_run f se to re kf p1 = g21_4 := (by rw [← eg21_4]; rfl)
  subst hw
  have hP : va_P D vwCl [oX x0 h o t1 x1 y1 z1, oH x1 x2 hf, aL cL x2 (gS s0 s1 s2 s3), oL s0 s01 s02 s03 (sf 0), aI cI s01 3 (sse 0), aI cI s02 7 (sto 0), aI cI s03 60 (sre 0), oL s1 s11 s12 s13 (sf 1), aI cI s11 3 (sse 1), aI cI s12 7 (sto 1), aI cI s13 60 (sre 1), oL s2 s21 s22 s23 (sf 2), aI cI s21 3 (sse 2), aI cI s22 7 (sto 2), aI cI s23 60 (sre 2), oL s3 s31 s32 s33 (sf 3), aI cI s31 3 (sse 3), aI cI s32 7 (sto 3), aI cI s33 60 (sre 3), oL h h1 h2 h3 f, aI cI h1 3 se, aI cI h2 7 to, aI cI h3 60 re, oP z1 pf, oT y1 y2 tf, aC cC y2 60 ch, oL o o1 o2 o3 g21_1, aI cI o1 3 se, aI cI o2 7 g21_2, aI cI o3 60 g21_3, oK t1 g21_4] H := hP
  have hD : va_D A [oX x0 h o t1 x1 y1 z1, oH x1 x2 hf, aL cL x2 (gS s0 s1 s2 s3), oL s0 s01 s02 s03 (sf 0), aI cI s01 3 (sse 0), aI cI s02 7 (sto 0), aI cI s03 60 (sre 0), oL s1 s11 s12 s13 (sf 1), aI cI s11 3 (sse 1), aI cI s12 7 (sto 1), aI cI s13 60 (sre 1), oL s2 s21 s22 s23 (sf 2), aI cI s21 3 (sse 2), aI cI s22 7 (sto 2), aI cI s23 60 (sre 2), oL s3 s31 s32 s33 (sf 3), aI cI s31 3 (sse 3), aI cI s32 7 (sto 3), aI cI s33 60 (sre 3), oL h h1 h2 h3 f, aI cI h1 3 se, aI cI h2 7 to, aI cI h3 60 re, oP z1 pf, oT y1 y2 tf, aC cC y2 60 ch, oL o o1 o2 o3 g21_1, aI cI o1 3 se, aI cI o2 7 g21_2, aI cI o3 60 g21_3, oK t1 g21_4] := hD
  refine ag_callVi (As := [.int (sr_X1_runTicks f se to re kf p1)]) (rest := []) hx hb hml hown hG hK hN hA hP hD hS hl (ct_X5_settle l D cI cC cL x0 h o t1 x1 y1 z1 x2 s0 s01 s02 s03 s1 s11 s12 s13 s2 s21 s22 s23 s3 s31 s32 s33 h1 h2 h3 y2 o1 o2 o3 hf f se to re pf tf ch g21_1 se g21_2 g21_3 g21_4 (sr_X1_runTicks f se to re kf p1) sf sse sto sre) fX5_settle k_267 ag_cut_all (q0 := 0) rfl rfl rfl rfl (Nat.le_of_ble_eq_true rfl) ⟨Nat.le_of_ble_eq_true rfl, Nat.le_of_ble_eq_true rfl⟩ ⟨Nat.zero_le _, Nat.zero_le _⟩ dX5_run_24 (fun r w1 H locs hw hP hD hS => ?_)
  obtain ⟨rfl, hw⟩ := hw
  generalize eg24_5 : sw1_X5_settle hf (sr_X1_runTicks f se to re kf p1) = g24_5 at hw
  replace eg24_5 : gv24_5_X5_run hf f se to re kf p1 = g24_5 := (by rw [← eg24_5]; rfl)
  generalize eg24_6 : fw_sf_X5_settle hf f (sr_X1_runTicks f se to re kf p1) sf = g24_6 at hw
  replace eg24_6 : gv24_6_X5_run hf f se to re kf p1 sf = g24_6 := (by rw [← eg24_6]; rfl)
  generalize eg24_7 : fw_sse_X5_settle hf se (sr_X1_runTicks f se to re kf p1) sse = g24_7 at hw
  replace eg24_7 : gv24_7_X5_run hf f se to re kf p1 sse = g24_7 := (by rw [← eg24_7]; rfl)
  generalize eg24_8 : fw_sto_X5_settle hf to (sr_X1_runTicks f se to re kf p1) sto = g24_8 at hw
  replace eg24_8 : gv24_8_X5_run hf f se to re kf p1 sto = g24_8 := (by rw [← eg24_8]; rfl)
  generalize eg24_9 : fw_sre_X5_settle hf re (sr_X1_runTicks f se to re kf p1) sre = g24_9 at hw
  replace eg24_9 : gv24_9_X5_run hf f se to re kf p1 sre = g24_9 := (by rw [← eg24_9]; rfl)
  generalize eg24_10 : sw19_X5_settle f g21_1 (sr_X1_runTicks f se to re kf p1) = g24_10 at hw
  replace eg24_10 : gv24_10_X5_run f se to re kf p1 = g24_10 := (by rw [← eg24_10, ← eg21_1]; rfl)
  generalize eg24_11 : sw20_X5_settle se se (sr_X1_runTicks f se to re kf p1) = g24_11 at hw
  replace eg24_11 : gv24_11_X5_run f se to re kf p1 = g24_11 := (by rw [← eg24_11]; rfl)
  generalize eg24_12 : sw21_X5_settle to g21_2 (sr_X1_runTicks f se to re kf p1) = g24_12 at hw
  replace eg24_12 : gv24_12_X5_run f se to re kf p1 = g24_12 := (by rw [← eg24_12, ← eg21_2]; rfl)
  generalize eg24_13 : sw22_X5_settle re g21_3 (sr_X1_runTicks f se to re kf p1) = g24_13 at hw
  replace eg24_13 : gv24_13_X5_run f se to re kf p1 = g24_13 := (by rw [← eg24_13, ← eg21_3]; rfl)
  subst hw
  have hP : va_P D vwCl [oX x0 h o t1 x1 y1 z1, oH x1 x2 g24_5, aL cL x2 (gS s0 s1 s2 s3), oL s0 s01 s02 s03 (g24_6 0), aI cI s01 3 (g24_7 0), aI cI s02 7 (g24_8 0), aI cI s03 60 (g24_9 0), oL s1 s11 s12 s13 (g24_6 1), aI cI s11 3 (g24_7 1), aI cI s12 7 (g24_8 1), aI cI s13 60 (g24_9 1), oL s2 s21 s22 s23 (g24_6 2), aI cI s21 3 (g24_7 2), aI cI s22 7 (g24_8 2), aI cI s23 60 (g24_9 2), oL s3 s31 s32 s33 (g24_6 3), aI cI s31 3 (g24_7 3), aI cI s32 7 (g24_8 3), aI cI s33 60 (g24_9 3), oL h h1 h2 h3 g24_10, aI cI h1 3 g24_11, aI cI h2 7 g24_12, aI cI h3 60 g24_13, oP z1 pf, oT y1 y2 tf, aC cC y2 60 ch, oL o o1 o2 o3 g21_1, aI cI o1 3 se, aI cI o2 7 g21_2, aI cI o3 60 g21_3, oK t1 g21_4] H := hP
  have hD : va_D A [oX x0 h o t1 x1 y1 z1, oH x1 x2 g24_5, aL cL x2 (gS s0 s1 s2 s3), oL s0 s01 s02 s03 (g24_6 0), aI cI s01 3 (g24_7 0), aI cI s02 7 (g24_8 0), aI cI s03 60 (g24_9 0), oL s1 s11 s12 s13 (g24_6 1), aI cI s11 3 (g24_7 1), aI cI s12 7 (g24_8 1), aI cI s13 60 (g24_9 1), oL s2 s21 s22 s23 (g24_6 2), aI cI s21 3 (g24_7 2), aI cI s22 7 (g24_8 2), aI cI s23 60 (g24_9 2), oL s3 s31 s32 s33 (g24_6 3), aI cI s31 3 (g24_7 3), aI cI s32 7 (g24_8 3), aI cI s33 60 (g24_9 3), oL h h1 h2 h3 g24_10, aI cI h1 3 g24_11, aI cI h2 7 g24_12, aI cI h3 60 g24_13, oP z1 pf, oT y1 y2 tf, aC cC y2 60 ch, oL o o1 o2 o3 g21_1, aI cI o1 3 se, aI cI o2 7 g21_2, aI cI o3 60 g21_3, oK t1 g21_4] := hD
  revert hP; revert hD; revert hS; revert hl
  subst eg24_13
  subst eg24_12
  subst eg24_11
  subst eg24_10
  subst eg24_9
  subst eg24_8
  subst eg24_7
  subst eg24_6
  subst eg24_5
  subst eg21_4
  subst eg21_3
  subst eg21_2
  subst eg21_1
  intro hl hS hD hP
  exact ag_iret [x0, x1, x2, s0, s01, s02, s03, s1, s11, s12, s13, s2, s21, s22, s23, s3, s31, s32, s33, h, h1, h2, h3, z1, y1, y2, o, o1, o2, o3, t1] hx hb hr rfl hlocks hP hS rfl rfl ⟨rfl, (by show _ = _; rw [show fw_sf_X5_run hf f se to re kf p1 sf = (gv24_6_X5_run hf f se to re kf p1 sf) from rfl, show fw_sse_X5_run hf f se to re kf p1 sse = (gv24_7_X5_run hf f se to re kf p1 sse) from rfl, show fw_sto_X5_run hf f se to re kf p1 sto = (gv24_8_X5_run hf f se to re kf p1 sto) from rfl, show fw_sre_X5_run hf f se to re kf p1 sre = (gv24_9_X5_run hf f se to re kf p1 sre) from rfl, show sw1_X5_run hf f se to re kf p1 = (gv24_5_X5_run hf f se to re kf p1) from rfl, show sw19_X5_run f se to re kf p1 = (gv24_10_X5_run f se to re kf p1) from rfl, show sw20_X5_run f se to re kf p1 = (gv24_11_X5_run f se to re kf p1) from rfl, show sw21_X5_run f se to re kf p1 = (gv24_12_X5_run f se to re kf p1) from rfl, show sw22_X5_run f se to re kf p1 = (gv24_13_X5_run f se to re kf p1) from rfl, show sw26_X5_run f se to re kf p1 = (gv21_1_X5_run f se to re kf p1) from rfl, show sw27_X5_run se = se from rfl, show sw28_X5_run f se to re kf p1 = (gv21_2_X5_run f se to re kf p1) from rfl, show sw29_X5_run f se to re kf p1 = (gv21_3_X5_run f se to re kf p1) from rfl, show sw30_X5_run f se to re kf p1 = (gv21_4_X5_run f se to re kf p1) from rfl])⟩ dX5_run_27
def gv17_1_X5_dredge (f : Nat → Int32) (p1 : Int32) : Nat → Int32 := sw0_X1_dredgeSilt f p1
def gv17_2_X5_dredge (f : Nat → Int32) (to : Nat → Int32) (p1 : Int32) : Nat → Int32 := sw2_X1_dredgeSilt f to p1
def gv20_3_X5_dredge (hf : Nat → Int32) (f : Nat → Int32) (p1 : Int32) : Nat → Int32 := sw1_X5_settle hf (sr_X1_dredgeSilt f p1)
def gv20_4_X5_dredge (hf : Nat → Int32) (f : Nat → Int32) (p1 : Int32) (sf : Nat → Nat → Int32) : Nat → Nat → Int32 := fw_sf_X5_settle hf f (sr_X1_dredgeSilt f p1) sf
def gv20_5_X5_dredge (hf : Nat → Int32) (f : Nat → Int32) (se : Nat → Int32) (p1 : Int32) (sse : Nat → Nat → Int32) : Nat → Nat → Int32 := fw_sse_X5_settle hf se (sr_X1_dredgeSilt f p1) sse
def gv20_6_X5_dredge (hf : Nat → Int32) (f : Nat → Int32) (to : Nat → Int32) (p1 : Int32) (sto : Nat → Nat → Int32) : Nat → Nat → Int32 := fw_sto_X5_settle hf to (sr_X1_dredgeSilt f p1) sto
def gv20_7_X5_dredge (hf : Nat → Int32) (f : Nat → Int32) (re : Nat → Int32) (p1 : Int32) (sre : Nat → Nat → Int32) : Nat → Nat → Int32 := fw_sre_X5_settle hf re (sr_X1_dredgeSilt f p1) sre
def gv20_8_X5_dredge (f : Nat → Int32) (p1 : Int32) : Nat → Int32 := sw19_X5_settle f (gv17_1_X5_dredge f p1) (sr_X1_dredgeSilt f p1)
def gv20_9_X5_dredge (f : Nat → Int32) (se : Nat → Int32) (p1 : Int32) : Nat → Int32 := sw20_X5_settle se se (sr_X1_dredgeSilt f p1)
def gv20_10_X5_dredge (f : Nat → Int32) (to : Nat → Int32) (p1 : Int32) : Nat → Int32 := sw21_X5_settle to (gv17_2_X5_dredge f to p1) (sr_X1_dredgeSilt f p1)
def gv20_11_X5_dredge (f : Nat → Int32) (re : Nat → Int32) (p1 : Int32) : Nat → Int32 := sw22_X5_settle re re (sr_X1_dredgeSilt f p1)
def sr_X5_dredge (f : Nat → Int32) (p1 : Int32) : Int32 := sr_X5_settle (sr_X1_dredgeSilt f p1)
def fw_sf_X5_dredge (hf : Nat → Int32) (f : Nat → Int32) (p1 : Int32) (sf : Nat → Nat → Int32) : Nat → Nat → Int32 := (gv20_4_X5_dredge hf f p1 sf)
def fw_sse_X5_dredge (hf : Nat → Int32) (f : Nat → Int32) (se : Nat → Int32) (p1 : Int32) (sse : Nat → Nat → Int32) : Nat → Nat → Int32 := (gv20_5_X5_dredge hf f se p1 sse)
def fw_sto_X5_dredge (hf : Nat → Int32) (f : Nat → Int32) (to : Nat → Int32) (p1 : Int32) (sto : Nat → Nat → Int32) : Nat → Nat → Int32 := (gv20_6_X5_dredge hf f to p1 sto)
def fw_sre_X5_dredge (hf : Nat → Int32) (f : Nat → Int32) (re : Nat → Int32) (p1 : Int32) (sre : Nat → Nat → Int32) : Nat → Nat → Int32 := (gv20_7_X5_dredge hf f re p1 sre)
def sw1_X5_dredge (hf : Nat → Int32) (f : Nat → Int32) (p1 : Int32) : Nat → Int32 := (gv20_3_X5_dredge hf f p1)
def sw19_X5_dredge (f : Nat → Int32) (p1 : Int32) : Nat → Int32 := (gv20_8_X5_dredge f p1)
def sw20_X5_dredge (f : Nat → Int32) (se : Nat → Int32) (p1 : Int32) : Nat → Int32 := (gv20_9_X5_dredge f se p1)
def sw21_X5_dredge (f : Nat → Int32) (to : Nat → Int32) (p1 : Int32) : Nat → Int32 := (gv20_10_X5_dredge f to p1)
def sw22_X5_dredge (f : Nat → Int32) (re : Nat → Int32) (p1 : Int32) : Nat → Int32 := (gv20_11_X5_dredge f re p1)
def sw26_X5_dredge (f : Nat → Int32) (p1 : Int32) : Nat → Int32 := (gv17_1_X5_dredge f p1)
def sw27_X5_dredge (se : Nat → Int32) : Nat → Int32 := se
def sw28_X5_dredge (f : Nat → Int32) (to : Nat → Int32) (p1 : Int32) : Nat → Int32 := (gv17_2_X5_dredge f to p1)
def sw29_X5_dredge (re : Nat → Int32) : Nat → Int32 := re
abbrev po_X5_dredge (cI cC cL : ClassId) (x0 h o t1 x1 y1 z1 x2 s0 s01 s02 s03 s1 s11 s12 s13 s2 s21 s22 s23 s3 s31 s32 s33 h1 h2 h3 y2 o1 o2 o3 : Nat) (hf f se to re pf tf ch of ose oto ore kf : Nat → Int32) (p1 : Int32) (sf : Nat → Nat → Int32) (sse : Nat → Nat → Int32) (sto : Nat → Nat → Int32) (sre : Nat → Nat → Int32) : Int32 → va_W → Prop := fun r w' => sr_X5_dredge f p1 = r ∧ [oX x0 h o t1 x1 y1 z1, oH x1 x2 (sw1_X5_dredge hf f p1), aL cL x2 (gS s0 s1 s2 s3), oL s0 s01 s02 s03 (fw_sf_X5_dredge hf f p1 sf 0), aI cI s01 3 (fw_sse_X5_dredge hf f se p1 sse 0), aI cI s02 7 (fw_sto_X5_dredge hf f to p1 sto 0), aI cI s03 60 (fw_sre_X5_dredge hf f re p1 sre 0), oL s1 s11 s12 s13 (fw_sf_X5_dredge hf f p1 sf 1), aI cI s11 3 (fw_sse_X5_dredge hf f se p1 sse 1), aI cI s12 7 (fw_sto_X5_dredge hf f to p1 sto 1), aI cI s13 60 (fw_sre_X5_dredge hf f re p1 sre 1), oL s2 s21 s22 s23 (fw_sf_X5_dredge hf f p1 sf 2), aI cI s21 3 (fw_sse_X5_dredge hf f se p1 sse 2), aI cI s22 7 (fw_sto_X5_dredge hf f to p1 sto 2), aI cI s23 60 (fw_sre_X5_dredge hf f re p1 sre 2), oL s3 s31 s32 s33 (fw_sf_X5_dredge hf f p1 sf 3), aI cI s31 3 (fw_sse_X5_dredge hf f se p1 sse 3), aI cI s32 7 (fw_sto_X5_dredge hf f to p1 sto 3), aI cI s33 60 (fw_sre_X5_dredge hf f re p1 sre 3), oL h h1 h2 h3 (sw19_X5_dredge f p1), aI cI h1 3 (sw20_X5_dredge f se p1), aI cI h2 7 (sw21_X5_dredge f to p1), aI cI h3 60 (sw22_X5_dredge f re p1), oP z1 pf, oT y1 y2 tf, aC cC y2 60 ch, oL o o1 o2 o3 (sw26_X5_dredge f p1), aI cI o1 3 (sw27_X5_dredge se), aI cI o2 7 (sw28_X5_dredge f to p1), aI cI o3 60 (sw29_X5_dredge re), oK t1 kf] = w'
set_option maxHeartbeats 4000000 in
set_option maxRecDepth 100000 in
theorem ct_X5_dredge (l : Launch) (D : va_G) (cI cC cL : ClassId) (x0 h o t1 x1 y1 z1 x2 s0 s01 s02 s03 s1 s11 s12 s13 s2 s21 s22 s23 s3 s31 s32 s33 h1 h2 h3 y2 o1 o2 o3 : Nat) (hf f se to re pf tf ch of ose oto ore kf : Nat → Int32) (p1 : Int32) (sf : Nat → Nat → Int32) (sse : Nat → Nat → Int32) (sto : Nat → Nat → Int32) (sre : Nat → Nat → Int32) : ag_MI l yX5_dredge cX5_dredge 2 .int 4 93 D cI cC cL [.ref x0, .int p1] [oX x0 h o t1 x1 y1 z1, oH x1 x2 hf, aL cL x2 (gS s0 s1 s2 s3), oL s0 s01 s02 s03 (sf 0), aI cI s01 3 (sse 0), aI cI s02 7 (sto 0), aI cI s03 60 (sre 0), oL s1 s11 s12 s13 (sf 1), aI cI s11 3 (sse 1), aI cI s12 7 (sto 1), aI cI s13 60 (sre 1), oL s2 s21 s22 s23 (sf 2), aI cI s21 3 (sse 2), aI cI s22 7 (sto 2), aI cI s23 60 (sre 2), oL s3 s31 s32 s33 (sf 3), aI cI s31 3 (sse 3), aI cI s32 7 (sto 3), aI cI s33 60 (sre 3), oL h h1 h2 h3 f, aI cI h1 3 se, aI cI h2 7 to, aI cI h3 60 re, oP z1 pf, oT y1 y2 tf, aC cC y2 60 ch, oL o o1 o2 o3 of, aI cI o1 3 ose, aI cI o2 7 oto, aI cI o3 60 ore, oK t1 kf] (po_X5_dredge cI cC cL x0 h o t1 x1 y1 z1 x2 s0 s01 s02 s03 s1 s11 s12 s13 s2 s21 s22 s23 s3 s31 s32 s33 h1 h2 h3 y2 o1 o2 o3 hf f se to re pf tf ch of ose oto ore kf p1 sf sse sto sre) := by
  refine ag_MI.of (plainFor_of_name (by decide)) (Nat.le_of_ble_eq_true rfl) ?_
  intro p e s m below meth c hx hb hr hlocks hml hown hmn hG hK A hN hA H locs hP hD hS ls hl
  have hl : lv_has ls 2 [(0, .ref x0), (1, .int p1)] := hl
  refine lv_aload_n hx hb dX5_dredge_0 rfl (lv_at hl 0 rfl) ?_
  refine ag_getX5 (v := .ref o) hx hb hG hown hK hP 0 1 rfl (by decide) k_177 rfl dX5_dredge_1 ?_
  refine lv_aload_n hx hb dX5_dredge_4 rfl (lv_at hl 0 rfl) ?_
  refine ag_getX5 (v := .ref h) hx hb hG hown hK hP 0 0 rfl (by decide) k_176 rfl dX5_dredge_5 ?_
  refine ag_callVv (As := [.ref h]) (rest := []) hx hb hml hown hG hK hN hA hP hD hS hl (ct_X1_copyFrom l D cI cC cL o h o1 o2 o3 h1 h2 h3 of ose oto ore f se to re) fX1_copyFrom k_255 (ag_cut_2s 4 [oX x0 h o t1 x1 y1 z1, oH x1 x2 hf, aL cL x2 (gS s0 s1 s2 s3), oL s0 s01 s02 s03 (sf 0), aI cI s01 3 (sse 0), aI cI s02 7 (sto 0), aI cI s03 60 (sre 0), oL s1 s11 s12 s13 (sf 1), aI cI s11 3 (sse 1), aI cI s12 7 (sto 1), aI cI s13 60 (sre 1), oL s2 s21 s22 s23 (sf 2), aI cI s21 3 (sse 2), aI cI s22 7 (sto 2), aI cI s23 60 (sre 2), oL s3 s31 s32 s33 (sf 3), aI cI s31 3 (sse 3), aI cI s32 7 (sto 3), aI cI s33 60 (sre 3)] [oL o o1 o2 o3 of, aI cI o1 3 ose, aI cI o2 7 oto, aI cI o3 60 ore] [oP z1 pf, oT y1 y2 tf, aC cC y2 60 ch] [oL h h1 h2 h3 f, aI cI h1 3 se, aI cI h2 7 to, aI cI h3 60 re] [oK t1 kf] rfl rfl rfl) (q0 := 26) rfl rfl rfl rfl (Nat.le_of_ble_eq_true rfl) ⟨Nat.le_of_ble_eq_true rfl, Nat.le_of_ble_eq_true rfl⟩ ⟨Nat.zero_le _, Nat.zero_le _⟩ dX5_dredge_8 (fun w1 H locs hw hP hD hS => ?_)
  have hw : _ = w1 := hw
  subst hw
  have hP : va_P D vwCl [oX x0 h o t1 x1 y1 z1, oH x1 x2 hf, aL cL x2 (gS s0 s1 s2 s3), oL s0 s01 s02 s03 (sf 0), aI cI s01 3 (sse 0), aI cI s02 7 (sto 0), aI cI s03 60 (sre 0), oL s1 s11 s12 s13 (sf 1), aI cI s11 3 (sse 1), aI cI s12 7 (sto 1), aI cI s13 60 (sre 1), oL s2 s21 s22 s23 (sf 2), aI cI s21 3 (sse 2), aI cI s22 7 (sto 2), aI cI s23 60 (sre 2), oL s3 s31 s32 s33 (sf 3), aI cI s31 3 (sse 3), aI cI s32 7 (sto 3), aI cI s33 60 (sre 3), oL h h1 h2 h3 f, aI cI h1 3 se, aI cI h2 7 to, aI cI h3 60 re, oP z1 pf, oT y1 y2 tf, aC cC y2 60 ch, oL o o1 o2 o3 f, aI cI o1 3 se, aI cI o2 7 to, aI cI o3 60 re, oK t1 kf] H := hP
  have hD : va_D A [oX x0 h o t1 x1 y1 z1, oH x1 x2 hf, aL cL x2 (gS s0 s1 s2 s3), oL s0 s01 s02 s03 (sf 0), aI cI s01 3 (sse 0), aI cI s02 7 (sto 0), aI cI s03 60 (sre 0), oL s1 s11 s12 s13 (sf 1), aI cI s11 3 (sse 1), aI cI s12 7 (sto 1), aI cI s13 60 (sre 1), oL s2 s21 s22 s23 (sf 2), aI cI s21 3 (sse 2), aI cI s22 7 (sto 2), aI cI s23 60 (sre 2), oL s3 s31 s32 s33 (sf 3), aI cI s31 3 (sse 3), aI cI s32 7 (sto 3), aI cI s33 60 (sre 3), oL h h1 h2 h3 f, aI cI h1 3 se, aI cI h2 7 to, aI cI h3 60 re, oP z1 pf, oT y1 y2 tf, aC cC y2 60 ch, oL o o1 o2 o3 f, aI cI o1 3 se, aI cI o2 7 to, aI cI o3 60 re, oK t1 kf] := hD
  refine lv_aload_n hx hb dX5_dredge_11 rfl (lv_at hl 0 rfl) ?_
  refine lv_aload_n hx hb dX5_dredge_12 rfl (lv_at hl 0 rfl) ?_
  refine ag_getX5 (v := .ref o) hx hb hG hown hK hP 0 1 rfl (by decide) k_177 rfl dX5_dredge_13 ?_
  refine lv_iload_n hx hb dX5_dredge_16 rfl (lv_at hl 1 rfl) ?_
  refine ag_callVi (As := [.int p1]) (rest := [.ref x0]) hx hb hml hown hG hK hN hA hP hD hS hl (ct_X1_dredgeSilt l D cI cC cL o o1 o2 o3 f se to re p1) fX1_dredgeSilt k_314 (ag_cut_1 [oX x0 h o t1 x1 y1 z1, oH x1 x2 hf, aL cL x2 (gS s0 s1 s2 s3), oL s0 s01 s02 s03 (sf 0), aI cI s01 3 (sse 0), aI cI s02 7 (sto 0), aI cI s03 60 (sre 0), oL s1 s11 s12 s13 (sf 1), aI cI s11 3 (sse 1), aI cI s12 7 (sto 1), aI cI s13 60 (sre 1), oL s2 s21 s22 s23 (sf 2), aI cI s21 3 (sse 2), aI cI s22 7 (sto 2), aI cI s23 60 (sre 2), oL s3 s31 s32 s33 (sf 3), aI cI s31 3 (sse 3), aI cI s32 7 (sto 3), aI cI s33 60 (sre 3), oL h h1 h2 h3 f, aI cI h1 3 se, aI cI h2 7 to, aI cI h3 60 re, oP z1 pf, oT y1 y2 tf, aC cC y2 60 ch] [oK t1 kf] rfl) (q0 := 26) rfl rfl rfl rfl (Nat.le_of_ble_eq_true rfl) ⟨Nat.le_of_ble_eq_true rfl, Nat.le_of_ble_eq_true rfl⟩ ⟨Nat.zero_le _, Nat.zero_le _⟩ dX5_dredge_17 (fun r w1 H locs hw hP hD hS => ?_)
  obtain ⟨rfl, hw⟩ := hw
  generalize eg17_1 : sw0_X1_dredgeSilt f p1 = g17_1 at hw
  replace eg17_1 : gv17_1_X5_dredge f p1 = g17_1 := (by rw [← eg17_1]; rfl)
  generalize eg17_2 : sw2_X1_dredgeSilt f to p1 = g17_2 at hw
  replace eg17_2 : gv17_2_X5_dredge f to p1 = g17_2 := (by rw [← eg17_2]; rfl)
  subst hw
  have hP : va_P D vwCl [oX x0 h o t1 x1 y1 z1, oH x1 x2 hf, aL cL x2 (gS s0 s1 s2 s3), oL s0 s01 s02 s03 (sf 0), aI cI s01 3 (sse 0), aI cI s02 7 (sto 0), aI cI s03 60 (sre 0), oL s1 s11 s12 s13 (sf 1), aI cI s11 3 (sse 1), aI cI s12 7 (sto 1), aI cI s13 60 (sre 1), oL s2 s21 s22 s23 (sf 2), aI cI s21 3 (sse 2), aI cI s22 7 (sto 2), aI cI s23 60 (sre 2), oL s3 s31 s32 s33 (sf 3), aI cI s31 3 (sse 3), aI cI s32 7 (sto 3), aI cI s33 60 (sre 3), oL h h1 h2 h3 f, aI cI h1 3 se, aI cI h2 7 to, aI cI h3 60 re, oP z1 pf, oT y1 y2 tf, aC cC y2 60 ch, oL o o1 o2 o3 g17_1, aI cI o1 3 se, aI cI o2 7 g17_2, aI cI o3 60 re, oK t1 kf] H := hP
  have hD : va_D A [oX x0 h o t1 x1 y1 z1, oH x1 x2 hf, aL cL x2 (gS s0 s1 s2 s3), oL s0 s01 s02 s03 (sf 0), aI cI s01 3 (sse 0), aI cI s02 7 (sto 0), aI cI s03 60 (sre 0), oL s1 s11 s12 s13 (sf 1), aI cI s11 3 (sse 1), aI cI s12 7 (sto 1), aI cI s13 60 (sre 1), oL s2 s21 s22 s23 (sf 2), aI cI s21 3 (sse 2), aI cI s22 7 (sto 2), aI cI s23 60 (sre 2), oL s3 s31 s32 s33 (sf 3), aI cI s31 3 (sse 3), aI cI s32 7 (sto 3), aI cI s33 60 (sre 3), oL h h1 h2 h3 f, aI cI h1 3 se, aI cI h2 7 to, aI cI h3 60 re, oP z1 pf, oT y1 y2 tf, aC cC y2 60 ch, oL o o1 o2 o3 g17_1, aI cI o1 3 se, aI cI o2 7 g17_2, aI cI o3 60 re, oK t1 kf] := hD
  refine ag_callVi (As := [.int (sr_X1_dredgeSilt f p1)]) (rest := []) hx hb hml hown hG hK hN hA hP hD hS hl (ct_X5_settle l D cI cC cL x0 h o t1 x1 y1 z1 x2 s0 s01 s02 s03 s1 s11 s12 s13 s2 s21 s22 s23 s3 s31 s32 s33 h1 h2 h3 y2 o1 o2 o3 hf f se to re pf tf ch g17_1 se g17_2 re kf (sr_X1_dredgeSilt f p1) sf sse sto sre) fX5_settle k_267 ag_cut_all (q0 := 0) rfl rfl rfl rfl (Nat.le_of_ble_eq_true rfl) ⟨Nat.le_of_ble_eq_true rfl, Nat.le_of_ble_eq_true rfl⟩ ⟨Nat.zero_le _, Nat.zero_le _⟩ dX5_dredge_20 (fun r w1 H locs hw hP hD hS => ?_)
  obtain ⟨rfl, hw⟩ := hw
  generalize eg20_3 : sw1_X5_settle hf (sr_X1_dredgeSilt f p1) = g20_3 at hw
  replace eg20_3 : gv20_3_X5_dredge hf f p1 = g20_3 := (by rw [← eg20_3]; rfl)
  generalize eg20_4 : fw_sf_X5_settle hf f (sr_X1_dredgeSilt f p1) sf = g20_4 at hw
  replace eg20_4 : gv20_4_X5_dredge hf f p1 sf = g20_4 := (by rw [← eg20_4]; rfl)
  generalize eg20_5 : fw_sse_X5_settle hf se (sr_X1_dredgeSilt f p1) sse = g20_5 at hw
  replace eg20_5 : gv20_5_X5_dredge hf f se p1 sse = g20_5 := (by rw [← eg20_5]; rfl)
  generalize eg20_6 : fw_sto_X5_settle hf to (sr_X1_dredgeSilt f p1) sto = g20_6 at hw
  replace eg20_6 : gv20_6_X5_dredge hf f to p1 sto = g20_6 := (by rw [← eg20_6]; rfl)
  generalize eg20_7 : fw_sre_X5_settle hf re (sr_X1_dredgeSilt f p1) sre = g20_7 at hw
  replace eg20_7 : gv20_7_X5_dredge hf f re p1 sre = g20_7 := (by rw [← eg20_7]; rfl)
  generalize eg20_8 : sw19_X5_settle f g17_1 (sr_X1_dredgeSilt f p1) = g20_8 at hw
  replace eg20_8 : gv20_8_X5_dredge f p1 = g20_8 := (by rw [← eg20_8, ← eg17_1]; rfl)
  generalize eg20_9 : sw20_X5_settle se se (sr_X1_dredgeSilt f p1) = g20_9 at hw
  replace eg20_9 : gv20_9_X5_dredge f se p1 = g20_9 := (by rw [← eg20_9]; rfl)
  generalize eg20_10 : sw21_X5_settle to g17_2 (sr_X1_dredgeSilt f p1) = g20_10 at hw
  replace eg20_10 : gv20_10_X5_dredge f to p1 = g20_10 := (by rw [← eg20_10, ← eg17_2]; rfl)
  generalize eg20_11 : sw22_X5_settle re re (sr_X1_dredgeSilt f p1) = g20_11 at hw
  replace eg20_11 : gv20_11_X5_dredge f re p1 = g20_11 := (by rw [← eg20_11]; rfl)
  subst hw
  have hP : va_P D vwCl [oX x0 h o t1 x1 y1 z1, oH x1 x2 g20_3, aL cL x2 (gS s0 s1 s2 s3), oL s0 s01 s02 s03 (g20_4 0), aI cI s01 3 (g20_5 0), aI cI s02 7 (g20_6 0), aI cI s03 60 (g20_7 0), oL s1 s11 s12 s13 (g20_4 1), aI cI s11 3 (g20_5 1), aI cI s12 7 (g20_6 1), aI cI s13 60 (g20_7 1), oL s2 s21 s22 s23 (g20_4 2), aI cI s21 3 (g20_5 2), aI cI s22 7 (g20_6 2), aI cI s23 60 (g20_7 2), oL s3 s31 s32 s33 (g20_4 3), aI cI s31 3 (g20_5 3), aI cI s32 7 (g20_6 3), aI cI s33 60 (g20_7 3), oL h h1 h2 h3 g20_8, aI cI h1 3 g20_9, aI cI h2 7 g20_10, aI cI h3 60 g20_11, oP z1 pf, oT y1 y2 tf, aC cC y2 60 ch, oL o o1 o2 o3 g17_1, aI cI o1 3 se, aI cI o2 7 g17_2, aI cI o3 60 re, oK t1 kf] H := hP
  have hD : va_D A [oX x0 h o t1 x1 y1 z1, oH x1 x2 g20_3, aL cL x2 (gS s0 s1 s2 s3), oL s0 s01 s02 s03 (g20_4 0), aI cI s01 3 (g20_5 0), aI cI s02 7 (g20_6 0), aI cI s03 60 (g20_7 0), oL s1 s11 s12 s13 (g20_4 1), aI cI s11 3 (g20_5 1), aI cI s12 7 (g20_6 1), aI cI s13 60 (g20_7 1), oL s2 s21 s22 s23 (g20_4 2), aI cI s21 3 (g20_5 2), aI cI s22 7 (g20_6 2), aI cI s23 60 (g20_7 2), oL s3 s31 s32 s33 (g20_4 3), aI cI s31 3 (g20_5 3), aI cI s32 7 (g20_6 3), aI cI s33 60 (g20_7 3), oL h h1 h2 h3 g20_8, aI cI h1 3 g20_9, aI cI h2 7 g20_10, aI cI h3 60 g20_11, oP z1 pf, oT y1 y2 tf, aC cC y2 60 ch, oL o o1 o2 o3 g17_1, aI cI o1 3 se, aI cI o2 7 g17_2, aI cI o3 60 re, oK t1 kf] := hD
  revert hP; revert hD; revert hS; revert hl
  subst eg20_11
  subst eg20_10
  subst eg20_9
  subst eg20_8
  subst eg20_7
  subst eg20_6
  subst eg20_5
  subst eg20_4
  subst eg20_3
  subst eg17_2
  subst eg17_1
  intro hl hS hD hP
  exact ag_iret [x0, x1, x2, s0, s01, s02, s03, s1, s11, s12, s13, s2, s21, s22, s23, s3, s31, s32, s33, h, h1, h2, h3, z1, y1, y2, o, o1, o2, o3, t1] hx hb hr rfl hlocks hP hS rfl rfl ⟨rfl, (by show _ = _; rw [show fw_sf_X5_dredge hf f p1 sf = (gv20_4_X5_dredge hf f p1 sf) from rfl, show fw_sse_X5_dredge hf f se p1 sse = (gv20_5_X5_dredge hf f se p1 sse) from rfl, show fw_sto_X5_dredge hf f to p1 sto = (gv20_6_X5_dredge hf f to p1 sto) from rfl, show fw_sre_X5_dredge hf f re p1 sre = (gv20_7_X5_dredge hf f re p1 sre) from rfl, show sw1_X5_dredge hf f p1 = (gv20_3_X5_dredge hf f p1) from rfl, show sw19_X5_dredge f p1 = (gv20_8_X5_dredge f p1) from rfl, show sw20_X5_dredge f se p1 = (gv20_9_X5_dredge f se p1) from rfl, show sw21_X5_dredge f to p1 = (gv20_10_X5_dredge f to p1) from rfl, show sw22_X5_dredge f re p1 = (gv20_11_X5_dredge f re p1) from rfl, show sw26_X5_dredge f p1 = (gv17_1_X5_dredge f p1) from rfl, show sw27_X5_dredge se = se from rfl, show sw28_X5_dredge f to p1 = (gv17_2_X5_dredge f to p1) from rfl, show sw29_X5_dredge re = re from rfl])⟩ dX5_dredge_23
def gv18_1_X5_set (se : Nat → Int32) (p1 : Int32) (p2 : Int32) : Nat → Int32 := sw1_X1_changeSetting se p1 p2
def gv21_2_X5_set (hf : Nat → Int32) (se : Nat → Int32) (p1 : Int32) (p2 : Int32) : Nat → Int32 := sw1_X5_settle hf (sr_X1_changeSetting se p1 p2)
def gv21_3_X5_set (hf : Nat → Int32) (f : Nat → Int32) (se : Nat → Int32) (p1 : Int32) (p2 : Int32) (sf : Nat → Nat → Int32) : Nat → Nat → Int32 := fw_sf_X5_settle hf f (sr_X1_changeSetting se p1 p2) sf
def gv21_4_X5_set (hf : Nat → Int32) (se : Nat → Int32) (p1 : Int32) (p2 : Int32) (sse : Nat → Nat → Int32) : Nat → Nat → Int32 := fw_sse_X5_settle hf se (sr_X1_changeSetting se p1 p2) sse
def gv21_5_X5_set (hf : Nat → Int32) (se : Nat → Int32) (to : Nat → Int32) (p1 : Int32) (p2 : Int32) (sto : Nat → Nat → Int32) : Nat → Nat → Int32 := fw_sto_X5_settle hf to (sr_X1_changeSetting se p1 p2) sto
def gv21_6_X5_set (hf : Nat → Int32) (se : Nat → Int32) (re : Nat → Int32) (p1 : Int32) (p2 : Int32) (sre : Nat → Nat → Int32) : Nat → Nat → Int32 := fw_sre_X5_settle hf re (sr_X1_changeSetting se p1 p2) sre
def gv21_7_X5_set (f : Nat → Int32) (se : Nat → Int32) (p1 : Int32) (p2 : Int32) : Nat → Int32 := sw19_X5_settle f f (sr_X1_changeSetting se p1 p2)
def gv21_8_X5_set (se : Nat → Int32) (p1 : Int32) (p2 : Int32) : Nat → Int32 := sw20_X5_settle se (gv18_1_X5_set se p1 p2) (sr_X1_changeSetting se p1 p2)
def gv21_9_X5_set (se : Nat → Int32) (to : Nat → Int32) (p1 : Int32) (p2 : Int32) : Nat → Int32 := sw21_X5_settle to to (sr_X1_changeSetting se p1 p2)
def gv21_10_X5_set (se : Nat → Int32) (re : Nat → Int32) (p1 : Int32) (p2 : Int32) : Nat → Int32 := sw22_X5_settle re re (sr_X1_changeSetting se p1 p2)
def sr_X5_set (se : Nat → Int32) (p1 : Int32) (p2 : Int32) : Int32 := sr_X5_settle (sr_X1_changeSetting se p1 p2)
def fw_sf_X5_set (hf : Nat → Int32) (f : Nat → Int32) (se : Nat → Int32) (p1 : Int32) (p2 : Int32) (sf : Nat → Nat → Int32) : Nat → Nat → Int32 := (gv21_3_X5_set hf f se p1 p2 sf)
def fw_sse_X5_set (hf : Nat → Int32) (se : Nat → Int32) (p1 : Int32) (p2 : Int32) (sse : Nat → Nat → Int32) : Nat → Nat → Int32 := (gv21_4_X5_set hf se p1 p2 sse)
def fw_sto_X5_set (hf : Nat → Int32) (se : Nat → Int32) (to : Nat → Int32) (p1 : Int32) (p2 : Int32) (sto : Nat → Nat → Int32) : Nat → Nat → Int32 := (gv21_5_X5_set hf se to p1 p2 sto)
def fw_sre_X5_set (hf : Nat → Int32) (se : Nat → Int32) (re : Nat → Int32) (p1 : Int32) (p2 : Int32) (sre : Nat → Nat → Int32) : Nat → Nat → Int32 := (gv21_6_X5_set hf se re p1 p2 sre)
def sw1_X5_set (hf : Nat → Int32) (se : Nat → Int32) (p1 : Int32) (p2 : Int32) : Nat → Int32 := (gv21_2_X5_set hf se p1 p2)
def sw19_X5_set (f : Nat → Int32) (se : Nat → Int32) (p1 : Int32) (p2 : Int32) : Nat → Int32 := (gv21_7_X5_set f se p1 p2)
def sw20_X5_set (se : Nat → Int32) (p1 : Int32) (p2 : Int32) : Nat → Int32 := (gv21_8_X5_set se p1 p2)
def sw21_X5_set (se : Nat → Int32) (to : Nat → Int32) (p1 : Int32) (p2 : Int32) : Nat → Int32 := (gv21_9_X5_set se to p1 p2)
def sw22_X5_set (se : Nat → Int32) (re : Nat → Int32) (p1 : Int32) (p2 : Int32) : Nat → Int32 := (gv21_10_X5_set se re p1 p2)
def sw26_X5_set (f : Nat → Int32) : Nat → Int32 := f
def sw27_X5_set (se : Nat → Int32) (p1 : Int32) (p2 : Int32) : Nat → Int32 := (gv18_1_X5_set se p1 p2)
def sw28_X5_set (to : Nat → Int32) : Nat → Int32 := to
def sw29_X5_set (re : Nat → Int32) : Nat → Int32 := re
abbrev po_X5_set (cI cC cL : ClassId) (x0 h o t1 x1 y1 z1 x2 s0 s01 s02 s03 s1 s11 s12 s13 s2 s21 s22 s23 s3 s31 s32 s33 h1 h2 h3 y2 o1 o2 o3 : Nat) (hf f se to re pf tf ch of ose oto ore kf : Nat → Int32) (p1 : Int32) (p2 : Int32) (sf : Nat → Nat → Int32) (sse : Nat → Nat → Int32) (sto : Nat → Nat → Int32) (sre : Nat → Nat → Int32) : Int32 → va_W → Prop := fun r w' => sr_X5_set se p1 p2 = r ∧ [oX x0 h o t1 x1 y1 z1, oH x1 x2 (sw1_X5_set hf se p1 p2), aL cL x2 (gS s0 s1 s2 s3), oL s0 s01 s02 s03 (fw_sf_X5_set hf f se p1 p2 sf 0), aI cI s01 3 (fw_sse_X5_set hf se p1 p2 sse 0), aI cI s02 7 (fw_sto_X5_set hf se to p1 p2 sto 0), aI cI s03 60 (fw_sre_X5_set hf se re p1 p2 sre 0), oL s1 s11 s12 s13 (fw_sf_X5_set hf f se p1 p2 sf 1), aI cI s11 3 (fw_sse_X5_set hf se p1 p2 sse 1), aI cI s12 7 (fw_sto_X5_set hf se to p1 p2 sto 1), aI cI s13 60 (fw_sre_X5_set hf se re p1 p2 sre 1), oL s2 s21 s22 s23 (fw_sf_X5_set hf f se p1 p2 sf 2), aI cI s21 3 (fw_sse_X5_set hf se p1 p2 sse 2), aI cI s22 7 (fw_sto_X5_set hf se to p1 p2 sto 2), aI cI s23 60 (fw_sre_X5_set hf se re p1 p2 sre 2), oL s3 s31 s32 s33 (fw_sf_X5_set hf f se p1 p2 sf 3), aI cI s31 3 (fw_sse_X5_set hf se p1 p2 sse 3), aI cI s32 7 (fw_sto_X5_set hf se to p1 p2 sto 3), aI cI s33 60 (fw_sre_X5_set hf se re p1 p2 sre 3), oL h h1 h2 h3 (sw19_X5_set f se p1 p2), aI cI h1 3 (sw20_X5_set se p1 p2), aI cI h2 7 (sw21_X5_set se to p1 p2), aI cI h3 60 (sw22_X5_set se re p1 p2), oP z1 pf, oT y1 y2 tf, aC cC y2 60 ch, oL o o1 o2 o3 (sw26_X5_set f), aI cI o1 3 (sw27_X5_set se p1 p2), aI cI o2 7 (sw28_X5_set to), aI cI o3 60 (sw29_X5_set re), oK t1 kf] = w'
set_option maxHeartbeats 4000000 in
set_option maxRecDepth 100000 in
theorem ct_X5_set (l : Launch) (D : va_G) (cI cC cL : ClassId) (x0 h o t1 x1 y1 z1 x2 s0 s01 s02 s03 s1 s11 s12 s13 s2 s21 s22 s23 s3 s31 s32 s33 h1 h2 h3 y2 o1 o2 o3 : Nat) (hf f se to re pf tf ch of ose oto ore kf : Nat → Int32) (p1 : Int32) (p2 : Int32) (sf : Nat → Nat → Int32) (sse : Nat → Nat → Int32) (sto : Nat → Nat → Int32) (sre : Nat → Nat → Int32) : ag_MI l yX5_set cX5_set 3 .int 4 93 D cI cC cL [.ref x0, .int p1, .int p2] [oX x0 h o t1 x1 y1 z1, oH x1 x2 hf, aL cL x2 (gS s0 s1 s2 s3), oL s0 s01 s02 s03 (sf 0), aI cI s01 3 (sse 0), aI cI s02 7 (sto 0), aI cI s03 60 (sre 0), oL s1 s11 s12 s13 (sf 1), aI cI s11 3 (sse 1), aI cI s12 7 (sto 1), aI cI s13 60 (sre 1), oL s2 s21 s22 s23 (sf 2), aI cI s21 3 (sse 2), aI cI s22 7 (sto 2), aI cI s23 60 (sre 2), oL s3 s31 s32 s33 (sf 3), aI cI s31 3 (sse 3), aI cI s32 7 (sto 3), aI cI s33 60 (sre 3), oL h h1 h2 h3 f, aI cI h1 3 se, aI cI h2 7 to, aI cI h3 60 re, oP z1 pf, oT y1 y2 tf, aC cC y2 60 ch, oL o o1 o2 o3 of, aI cI o1 3 ose, aI cI o2 7 oto, aI cI o3 60 ore, oK t1 kf] (po_X5_set cI cC cL x0 h o t1 x1 y1 z1 x2 s0 s01 s02 s03 s1 s11 s12 s13 s2 s21 s22 s23 s3 s31 s32 s33 h1 h2 h3 y2 o1 o2 o3 hf f se to re pf tf ch of ose oto ore kf p1 p2 sf sse sto sre) := by
  refine ag_MI.of (plainFor_of_name (by decide)) (Nat.le_of_ble_eq_true rfl) ?_
  intro p e s m below meth c hx hb hr hlocks hml hown hmn hG hK A hN hA H locs hP hD hS ls hl
  have hl : lv_has ls 3 [(0, .ref x0), (1, .int p1), (2, .int p2)] := hl
  refine lv_aload_n hx hb dX5_set_0 rfl (lv_at hl 0 rfl) ?_
  refine ag_getX5 (v := .ref o) hx hb hG hown hK hP 0 1 rfl (by decide) k_177 rfl dX5_set_1 ?_
  refine lv_aload_n hx hb dX5_set_4 rfl (lv_at hl 0 rfl) ?_
  refine ag_getX5 (v := .ref h) hx hb hG hown hK hP 0 0 rfl (by decide) k_176 rfl dX5_set_5 ?_
  refine ag_callVv (As := [.ref h]) (rest := []) hx hb hml hown hG hK hN hA hP hD hS hl (ct_X1_copyFrom l D cI cC cL o h o1 o2 o3 h1 h2 h3 of ose oto ore f se to re) fX1_copyFrom k_255 (ag_cut_2s 4 [oX x0 h o t1 x1 y1 z1, oH x1 x2 hf, aL cL x2 (gS s0 s1 s2 s3), oL s0 s01 s02 s03 (sf 0), aI cI s01 3 (sse 0), aI cI s02 7 (sto 0), aI cI s03 60 (sre 0), oL s1 s11 s12 s13 (sf 1), aI cI s11 3 (sse 1), aI cI s12 7 (sto 1), aI cI s13 60 (sre 1), oL s2 s21 s22 s23 (sf 2), aI cI s21 3 (sse 2), aI cI s22 7 (sto 2), aI cI s23 60 (sre 2), oL s3 s31 s32 s33 (sf 3), aI cI s31 3 (sse 3), aI cI s32 7 (sto 3), aI cI s33 60 (sre 3)] [oL o o1 o2 o3 of, aI cI o1 3 ose, aI cI o2 7 oto, aI cI o3 60 ore] [oP z1 pf, oT y1 y2 tf, aC cC y2 60 ch] [oL h h1 h2 h3 f, aI cI h1 3 se, aI cI h2 7 to, aI cI h3 60 re] [oK t1 kf] rfl rfl rfl) (q0 := 26) rfl rfl rfl rfl (Nat.le_of_ble_eq_true rfl) ⟨Nat.le_of_ble_eq_true rfl, Nat.le_of_ble_eq_true rfl⟩ ⟨Nat.zero_le _, Nat.zero_le _⟩ dX5_set_8 (fun w1 H locs hw hP hD hS => ?_)
  have hw : _ = w1 := hw
  subst hw
  have hP : va_P D vwCl [oX x0 h o t1 x1 y1 z1, oH x1 x2 hf, aL cL x2 (gS s0 s1 s2 s3), oL s0 s01 s02 s03 (sf 0), aI cI s01 3 (sse 0), aI cI s02 7 (sto 0), aI cI s03 60 (sre 0), oL s1 s11 s12 s13 (sf 1), aI cI s11 3 (sse 1), aI cI s12 7 (sto 1), aI cI s13 60 (sre 1), oL s2 s21 s22 s23 (sf 2), aI cI s21 3 (sse 2), aI cI s22 7 (sto 2), aI cI s23 60 (sre 2), oL s3 s31 s32 s33 (sf 3), aI cI s31 3 (sse 3), aI cI s32 7 (sto 3), aI cI s33 60 (sre 3), oL h h1 h2 h3 f, aI cI h1 3 se, aI cI h2 7 to, aI cI h3 60 re, oP z1 pf, oT y1 y2 tf, aC cC y2 60 ch, oL o o1 o2 o3 f, aI cI o1 3 se, aI cI o2 7 to, aI cI o3 60 re, oK t1 kf] H := hP
  have hD : va_D A [oX x0 h o t1 x1 y1 z1, oH x1 x2 hf, aL cL x2 (gS s0 s1 s2 s3), oL s0 s01 s02 s03 (sf 0), aI cI s01 3 (sse 0), aI cI s02 7 (sto 0), aI cI s03 60 (sre 0), oL s1 s11 s12 s13 (sf 1), aI cI s11 3 (sse 1), aI cI s12 7 (sto 1), aI cI s13 60 (sre 1), oL s2 s21 s22 s23 (sf 2), aI cI s21 3 (sse 2), aI cI s22 7 (sto 2), aI cI s23 60 (sre 2), oL s3 s31 s32 s33 (sf 3), aI cI s31 3 (sse 3), aI cI s32 7 (sto 3), aI cI s33 60 (sre 3), oL h h1 h2 h3 f, aI cI h1 3 se, aI cI h2 7 to, aI cI h3 60 re, oP z1 pf, oT y1 y2 tf, aC cC y2 60 ch, oL o o1 o2 o3 f, aI cI o1 3 se, aI cI o2 7 to, aI cI o3 60 re, oK t1 kf] := hD
  refine lv_aload_n hx hb dX5_set_11 rfl (lv_at hl 0 rfl) ?_
  refine lv_aload_n hx hb dX5_set_12 rfl (lv_at hl 0 rfl) ?_
  refine ag_getX5 (v := .ref o) hx hb hG hown hK hP 0 1 rfl (by decide) k_177 rfl dX5_set_13 ?_
  refine lv_iload_n hx hb dX5_set_16 rfl (lv_at hl 1 rfl) ?_
  refine lv_iload_n hx hb dX5_set_17 rfl (lv_at hl 2 rfl) ?_
  refine ag_callVi (As := [.int p1, .int p2]) (rest := [.ref x0]) hx hb hml hown hG hK hN hA hP hD hS hl (ct_X1_changeSetting l D cI cC cL o o1 o2 o3 f se to re p1 p2) fX1_changeSetting k_324 (ag_cut_1 [oX x0 h o t1 x1 y1 z1, oH x1 x2 hf, aL cL x2 (gS s0 s1 s2 s3), oL s0 s01 s02 s03 (sf 0), aI cI s01 3 (sse 0), aI cI s02 7 (sto 0), aI cI s03 60 (sre 0), oL s1 s11 s12 s13 (sf 1), aI cI s11 3 (sse 1), aI cI s12 7 (sto 1), aI cI s13 60 (sre 1), oL s2 s21 s22 s23 (sf 2), aI cI s21 3 (sse 2), aI cI s22 7 (sto 2), aI cI s23 60 (sre 2), oL s3 s31 s32 s33 (sf 3), aI cI s31 3 (sse 3), aI cI s32 7 (sto 3), aI cI s33 60 (sre 3), oL h h1 h2 h3 f, aI cI h1 3 se, aI cI h2 7 to, aI cI h3 60 re, oP z1 pf, oT y1 y2 tf, aC cC y2 60 ch] [oK t1 kf] rfl) (q0 := 26) rfl rfl rfl rfl (Nat.le_of_ble_eq_true rfl) ⟨Nat.le_of_ble_eq_true rfl, Nat.le_of_ble_eq_true rfl⟩ ⟨Nat.zero_le _, Nat.zero_le _⟩ dX5_set_18 (fun r w1 H locs hw hP hD hS => ?_)
  obtain ⟨rfl, hw⟩ := hw
  generalize eg18_1 : sw1_X1_changeSetting se p1 p2 = g18_1 at hw
  replace eg18_1 : gv18_1_X5_set se p1 p2 = g18_1 := (by rw [← eg18_1]; rfl)
  subst hw
  have hP : va_P D vwCl [oX x0 h o t1 x1 y1 z1, oH x1 x2 hf, aL cL x2 (gS s0 s1 s2 s3), oL s0 s01 s02 s03 (sf 0), aI cI s01 3 (sse 0), aI cI s02 7 (sto 0), aI cI s03 60 (sre 0), oL s1 s11 s12 s13 (sf 1), aI cI s11 3 (sse 1), aI cI s12 7 (sto 1), aI cI s13 60 (sre 1), oL s2 s21 s22 s23 (sf 2), aI cI s21 3 (sse 2), aI cI s22 7 (sto 2), aI cI s23 60 (sre 2), oL s3 s31 s32 s33 (sf 3), aI cI s31 3 (sse 3), aI cI s32 7 (sto 3), aI cI s33 60 (sre 3), oL h h1 h2 h3 f, aI cI h1 3 se, aI cI h2 7 to, aI cI h3 60 re, oP z1 pf, oT y1 y2 tf, aC cC y2 60 ch, oL o o1 o2 o3 f, aI cI o1 3 g18_1, aI cI o2 7 to, aI cI o3 60 re, oK t1 kf] H := hP
  have hD : va_D A [oX x0 h o t1 x1 y1 z1, oH x1 x2 hf, aL cL x2 (gS s0 s1 s2 s3), oL s0 s01 s02 s03 (sf 0), aI cI s01 3 (sse 0), aI cI s02 7 (sto 0), aI cI s03 60 (sre 0), oL s1 s11 s12 s13 (sf 1), aI cI s11 3 (sse 1), aI cI s12 7 (sto 1), aI cI s13 60 (sre 1), oL s2 s21 s22 s23 (sf 2), aI cI s21 3 (sse 2), aI cI s22 7 (sto 2), aI cI s23 60 (sre 2), oL s3 s31 s32 s33 (sf 3), aI cI s31 3 (sse 3), aI cI s32 7 (sto 3), aI cI s33 60 (sre 3), oL h h1 h2 h3 f, aI cI h1 3 se, aI cI h2 7 to, aI cI h3 60 re, oP z1 pf, oT y1 y2 tf, aC cC y2 60 ch, oL o o1 o2 o3 f, aI cI o1 3 g18_1, aI cI o2 7 to, aI cI o3 60 re, oK t1 kf] := hD
  refine ag_callVi (As := [.int (sr_X1_changeSetting se p1 p2)]) (rest := []) hx hb hml hown hG hK hN hA hP hD hS hl (ct_X5_settle l D cI cC cL x0 h o t1 x1 y1 z1 x2 s0 s01 s02 s03 s1 s11 s12 s13 s2 s21 s22 s23 s3 s31 s32 s33 h1 h2 h3 y2 o1 o2 o3 hf f se to re pf tf ch f g18_1 to re kf (sr_X1_changeSetting se p1 p2) sf sse sto sre) fX5_settle k_267 ag_cut_all (q0 := 0) rfl rfl rfl rfl (Nat.le_of_ble_eq_true rfl) ⟨Nat.le_of_ble_eq_true rfl, Nat.le_of_ble_eq_true rfl⟩ ⟨Nat.zero_le _, Nat.zero_le _⟩ dX5_set_21 (fun r w1 H locs hw hP hD hS => ?_)
  obtain ⟨rfl, hw⟩ := hw
  generalize eg21_2 : sw1_X5_settle hf (sr_X1_changeSetting se p1 p2) = g21_2 at hw
  replace eg21_2 : gv21_2_X5_set hf se p1 p2 = g21_2 := (by rw [← eg21_2]; rfl)
  generalize eg21_3 : fw_sf_X5_settle hf f (sr_X1_changeSetting se p1 p2) sf = g21_3 at hw
  replace eg21_3 : gv21_3_X5_set hf f se p1 p2 sf = g21_3 := (by rw [← eg21_3]; rfl)
  generalize eg21_4 : fw_sse_X5_settle hf se (sr_X1_changeSetting se p1 p2) sse = g21_4 at hw
  replace eg21_4 : gv21_4_X5_set hf se p1 p2 sse = g21_4 := (by rw [← eg21_4]; rfl)
  generalize eg21_5 : fw_sto_X5_settle hf to (sr_X1_changeSetting se p1 p2) sto = g21_5 at hw
  replace eg21_5 : gv21_5_X5_set hf se to p1 p2 sto = g21_5 := (by rw [← eg21_5]; rfl)
  generalize eg21_6 : fw_sre_X5_settle hf re (sr_X1_changeSetting se p1 p2) sre = g21_6 at hw
  replace eg21_6 : gv21_6_X5_set hf se re p1 p2 sre = g21_6 := (by rw [← eg21_6]; rfl)
  generalize eg21_7 : sw19_X5_settle f f (sr_X1_changeSetting se p1 p2) = g21_7 at hw
  replace eg21_7 : gv21_7_X5_set f se p1 p2 = g21_7 := (by rw [← eg21_7]; rfl)
  generalize eg21_8 : sw20_X5_settle se g18_1 (sr_X1_changeSetting se p1 p2) = g21_8 at hw
  replace eg21_8 : gv21_8_X5_set se p1 p2 = g21_8 := (by rw [← eg21_8, ← eg18_1]; rfl)
  generalize eg21_9 : sw21_X5_settle to to (sr_X1_changeSetting se p1 p2) = g21_9 at hw
  replace eg21_9 : gv21_9_X5_set se to p1 p2 = g21_9 := (by rw [← eg21_9]; rfl)
  generalize eg21_10 : sw22_X5_settle re re (sr_X1_changeSetting se p1 p2) = g21_10 at hw
  replace eg21_10 : gv21_10_X5_set se re p1 p2 = g21_10 := (by rw [← eg21_10]; rfl)
  subst hw
  have hP : va_P D vwCl [oX x0 h o t1 x1 y1 z1, oH x1 x2 g21_2, aL cL x2 (gS s0 s1 s2 s3), oL s0 s01 s02 s03 (g21_3 0), aI cI s01 3 (g21_4 0), aI cI s02 7 (g21_5 0), aI cI s03 60 (g21_6 0), oL s1 s11 s12 s13 (g21_3 1), aI cI s11 3 (g21_4 1), aI cI s12 7 (g21_5 1), aI cI s13 60 (g21_6 1), oL s2 s21 s22 s23 (g21_3 2), aI cI s21 3 (g21_4 2), aI cI s22 7 (g21_5 2), aI cI s23 60 (g21_6 2), oL s3 s31 s32 s33 (g21_3 3), aI cI s31 3 (g21_4 3), aI cI s32 7 (g21_5 3), aI cI s33 60 (g21_6 3), oL h h1 h2 h3 g21_7, aI cI h1 3 g21_8, aI cI h2 7 g21_9, aI cI h3 60 g21_10, oP z1 pf, oT y1 y2 tf, aC cC y2 60 ch, oL o o1 o2 o3 f, aI cI o1 3 g18_1, aI cI o2 7 to, aI cI o3 60 re, oK t1 kf] H := hP
  have hD : va_D A [oX x0 h o t1 x1 y1 z1, oH x1 x2 g21_2, aL cL x2 (gS s0 s1 s2 s3), oL s0 s01 s02 s03 (g21_3 0), aI cI s01 3 (g21_4 0), aI cI s02 7 (g21_5 0), aI cI s03 60 (g21_6 0), oL s1 s11 s12 s13 (g21_3 1), aI cI s11 3 (g21_4 1), aI cI s12 7 (g21_5 1), aI cI s13 60 (g21_6 1), oL s2 s21 s22 s23 (g21_3 2), aI cI s21 3 (g21_4 2), aI cI s22 7 (g21_5 2), aI cI s23 60 (g21_6 2), oL s3 s31 s32 s33 (g21_3 3), aI cI s31 3 (g21_4 3), aI cI s32 7 (g21_5 3), aI cI s33 60 (g21_6 3), oL h h1 h2 h3 g21_7, aI cI h1 3 g21_8, aI cI h2 7 g21_9, aI cI h3 60 g21_10, oP z1 pf, oT y1 y2 tf, aC cC y2 60 ch, oL o o1 o2 o3 f, aI cI o1 3 g18_1, aI cI o2 7 to, aI cI o3 60 re, oK t1 kf] := hD
  revert hP; revert hD; revert hS; revert hl
  subst eg21_10
  subst eg21_9
  subst eg21_8
  subst eg21_7
  subst eg21_6
  subst eg21_5
  subst eg21_4
  subst eg21_3
  subst eg21_2
  subst eg18_1
  intro hl hS hD hP
  exact ag_iret [x0, x1, x2, s0, s01, s02, s03, s1, s11, s12, s13, s2, s21, s22, s23, s3, s31, s32, s33, h, h1, h2, h3, z1, y1, y2, o, o1, o2, o3, t1] hx hb hr rfl hlocks hP hS rfl rfl ⟨rfl, (by show _ = _; rw [show fw_sf_X5_set hf f se p1 p2 sf = (gv21_3_X5_set hf f se p1 p2 sf) from rfl, show fw_sse_X5_set hf se p1 p2 sse = (gv21_4_X5_set hf se p1 p2 sse) from rfl, show fw_sto_X5_set hf se to p1 p2 sto = (gv21_5_X5_set hf se to p1 p2 sto) from rfl, show fw_sre_X5_set hf se re p1 p2 sre = (gv21_6_X5_set hf se re p1 p2 sre) from rfl, show sw1_X5_set hf se p1 p2 = (gv21_2_X5_set hf se p1 p2) from rfl, show sw19_X5_set f se p1 p2 = (gv21_7_X5_set f se p1 p2) from rfl, show sw20_X5_set se p1 p2 = (gv21_8_X5_set se p1 p2) from rfl, show sw21_X5_set se to p1 p2 = (gv21_9_X5_set se to p1 p2) from rfl, show sw22_X5_set se re p1 p2 = (gv21_10_X5_set se re p1 p2) from rfl, show sw26_X5_set f = f from rfl, show sw27_X5_set se p1 p2 = (gv18_1_X5_set se p1 p2) from rfl, show sw28_X5_set to = to from rfl, show sw29_X5_set re = re from rfl])⟩ dX5_set_24
