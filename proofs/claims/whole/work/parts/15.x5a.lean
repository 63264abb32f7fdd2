/-! the class itself: reads -/
def sr_X5_sea (p1 : Int32) : Int32 := if p1 < 0 then (-1000000001) else if p1 ≤ 9999 then sr_X5_seaLevel p1 else (-1000000001)
abbrev po_X5_sea (cI cC cL : ClassId) (x0 h o t1 x1 y1 z1 x2 s0 s01 s02 s03 s1 s11 s12 s13 s2 s21 s22 s23 s3 s31 s32 s33 h1 h2 h3 y2 o1 o2 o3 : Nat) (hf f se to re pf tf ch of ose oto ore kf : Nat → Int32) (p1 : Int32) (sf : Nat → Nat → Int32) (sse : Nat → Nat → Int32) (sto : Nat → Nat → Int32) (sre : Nat → Nat → Int32) : Int32 → va_W → Prop := fun r w' => sr_X5_sea p1 = r ∧ [oX x0 h o t1 x1 y1 z1, oH x1 x2 hf, aL cL x2 (gS s0 s1 s2 s3), oL s0 s01 s02 s03 (sf 0), aI cI s01 3 (sse 0), aI cI s02 7 (sto 0), aI cI s03 60 (sre 0), oL s1 s11 s12 s13 (sf 1), aI cI s11 3 (sse 1), aI cI s12 7 (sto 1), aI cI s13 60 (sre 1), oL s2 s21 s22 s23 (sf 2), aI cI s21 3 (sse 2), aI cI s22 7 (sto 2), aI cI s23 60 (sre 2), oL s3 s31 s32 s33 (sf 3), aI cI s31 3 (sse 3), aI cI s32 7 (sto 3), aI cI s33 60 (sre 3), oL h h1 h2 h3 f, aI cI h1 3 se, aI cI h2 7 to, aI cI h3 60 re, oP z1 pf, oT y1 y2 tf, aC cC y2 60 ch, oL o o1 o2 o3 of, aI cI o1 3 ose, aI cI o2 7 oto, aI cI o3 60 ore, oK t1 kf] = w'
set_option maxHeartbeats 4000000 in
set_option maxRecDepth 100000 in
theorem ct_X5_sea (l : Launch) (D : va_G) (cI cC cL : ClassId) (x0 h o t1 x1 y1 z1 x2 s0 s01 s02 s03 s1 s11 s12 s13 s2 s21 s22 s23 s3 s31 s32 s33 h1 h2 h3 y2 o1 o2 o3 : Nat) (hf f se to re pf tf ch of ose oto ore kf : Nat → Int32) (p1 : Int32) (sf : Nat → Nat → Int32) (sse : Nat → Nat → Int32) (sto : Nat → Nat → Int32) (sre : Nat → Nat → Int32) : ag_MI l yX5_sea cX5_sea 2 .int 2 43 D cI cC cL [.ref x0, .int p1] [oX x0 h o t1 x1 y1 z1, oH x1 x2 hf, aL cL x2 (gS s0 s1 s2 s3), oL s0 s01 s02 s03 (sf 0), aI cI s01 3 (sse 0), aI cI s02 7 (sto 0), aI cI s03 60 (sre 0), oL s1 s11 s12 s13 (sf 1), aI cI s11 3 (sse 1), aI cI s12 7 (sto 1), aI cI s13 60 (sre 1), oL s2 s21 s22 s23 (sf 2), aI cI s21 3 (sse 2), aI cI s22 7 (sto 2), aI cI s23 60 (sre 2), oL s3 s31 s32 s33 (sf 3), aI cI s31 3 (sse 3), aI cI s32 7 (sto 3), aI cI s33 60 (sre 3), oL h h1 h2 h3 f, aI cI h1 3 se, aI cI h2 7 to, aI cI h3 60 re, oP z1 pf, oT y1 y2 tf, aC cC y2 60 ch, oL o o1 o2 o3 of, aI cI o1 3 ose, aI cI o2 7 oto, aI cI o3 60 ore, oK t1 kf] (po_X5_sea cI cC cL x0 h o t1 x1 y1 z1 x2 s0 s01 s02 s03 s1 s11 s12 s13 s2 s21 s22 s23 s3 s31 s32 s33 h1 h2 h3 y2 o1 o2 o3 hf f se to re pf tf ch of ose oto ore kf p1 sf sse sto sre) := by
  refine ag_MI.of (plainFor_of_name (by decide)) (Nat.le_of_ble_eq_true rfl) ?_
  intro p e s m below meth c hx hb hr hlocks hml hown hmn hG hK A hN hA H locs hP hD hS ls hl
  have hl : lv_has ls 2 [(0, .ref x0), (1, .int p1)] := hl
  refine lv_iload_n hx hb dX5_sea_0 rfl (lv_at hl 1 rfl) ?_
  refine lv_if_lt (tgt := 11) hx hb dX5_sea_1 (by decide) (fun c_1 => ?_) (fun c_1 => ?_)
  · refine lv_ldc (v := (-1000000001)) hx hb hown (hG _ k_259) dX5_sea_11 ?_
    exact ag_iret [x0, x1, x2, s0, s01, s02, s03, s1, s11, s12, s13, s2, s21, s22, s23, s3, s31, s32, s33, h, h1, h2, h3, z1, y1, y2, o, o1, o2, o3, t1] hx hb hr rfl hlocks hP hS rfl rfl ⟨(by unfold sr_X5_sea; rw [if_pos c_1]), rfl⟩ dX5_sea_13
  · refine lv_iload_n hx hb dX5_sea_4 rfl (lv_at hl 1 rfl) ?_
    refine lv_sipush (v := 9999) hx hb dX5_sea_5 (by decide) ?_
    refine lv_icmp_le (tgt := 14) hx hb dX5_sea_8 (by decide) (fun c_8 => ?_) (fun c_8 => ?_)
    · refine lv_iload_n hx hb dX5_sea_14 rfl (lv_at hl 1 rfl) ?_
      refine ag_callSi (As := [.int p1]) (rest := []) hx hb hml hown hG hK hN hA hP hD hS hl (ct_X5_seaLevel l D cI cC cL p1) fX5_seaLevel k_388 ag_cut_0 rfl (Nat.le_of_ble_eq_true rfl) ⟨Nat.le_of_ble_eq_true rfl, Nat.le_of_ble_eq_true rfl⟩ ⟨Nat.zero_le _, Nat.zero_le _⟩ dX5_sea_15 (fun r w1 H locs hw hP hD hS => ?_)
      obtain ⟨rfl, hw⟩ := hw
      subst hw
      have hP : va_P D vwCl [oX x0 h o t1 x1 y1 z1, oH x1 x2 hf, aL cL x2 (gS s0 s1 s2 s3), oL s0 s01 s02 s03 (sf 0), aI cI s01 3 (sse 0), aI cI s02 7 (sto 0), aI cI s03 60 (sre 0), oL s1 s11 s12 s13 (sf 1), aI cI s11 3 (sse 1), aI cI s12 7 (sto 1), aI cI s13 60 (sre 1), oL s2 s21 s22 s23 (sf 2), aI cI s21 3 (sse 2), aI cI s22 7 (sto 2), aI cI s23 60 (sre 2), oL s3 s31 s32 s33 (sf 3), aI cI s31 3 (sse 3), aI cI s32 7 (sto 3), aI cI s33 60 (sre 3), oL h h1 h2 h3 f, aI cI h1 3 se, aI cI h2 7 to, aI cI h3 60 re, oP z1 pf, oT y1 y2 tf, aC cC y2 60 ch, oL o o1 o2 o3 of, aI cI o1 3 ose, aI cI o2 7 oto, aI cI o3 60 ore, oK t1 kf] H := hP
      have hD : va_D A [oX x0 h o t1 x1 y1 z1, oH x1 x2 hf, aL cL x2 (gS s0 s1 s2 s3), oL s0 s01 s02 s03 (sf 0), aI cI s01 3 (sse 0), aI cI s02 7 (sto 0), aI cI s03 60 (sre 0), oL s1 s11 s12 s13 (sf 1), aI cI s11 3 (sse 1), aI cI s12 7 (sto 1), aI cI s13 60 (sre 1), oL s2 s21 s22 s23 (sf 2), aI cI s21 3 (sse 2), aI cI s22 7 (sto 2), aI cI s23 60 (sre 2), oL s3 s31 s32 s33 (sf 3), aI cI s31 3 (sse 3), aI cI s32 7 (sto 3), aI cI s33 60 (sre 3), oL h h1 h2 h3 f, aI cI h1 3 se, aI cI h2 7 to, aI cI h3 60 re, oP z1 pf, oT y1 y2 tf, aC cC y2 60 ch, oL o o1 o2 o3 of, aI cI o1 3 ose, aI cI o2 7 oto, aI cI o3 60 ore, oK t1 kf] := hD
      exact ag_iret [x0, x1, x2, s0, s01, s02, s03, s1, s11, s12, s13, s2, s21, s22, s23, s3, s31, s32, s33, h, h1, h2, h3, z1, y1, y2, o, o1, o2, o3, t1] hx hb hr rfl hlocks hP hS rfl rfl ⟨(by unfold sr_X5_sea; rw [if_neg c_1, if_pos c_8]), rfl⟩ dX5_sea_18
    · refine lv_ldc (v := (-1000000001)) hx hb hown (hG _ k_259) dX5_sea_11 ?_
      exact ag_iret [x0, x1, x2, s0, s01, s02, s03, s1, s11, s12, s13, s2, s21, s22, s23, s3, s31, s32, s33, h, h1, h2, h3, z1, y1, y2, o, o1, o2, o3, t1] hx hb hr rfl hlocks hP hS rfl rfl ⟨(by unfold sr_X5_sea; rw [if_neg c_1, if_neg c_8]), rfl⟩ dX5_sea_13
def sr_X5_now (f : Nat → Int32) (p1 : Int32) : Int32 := if p1 = 0 then f 0 else if p1 = 1 then (f 0) / 144 else if p1 = 2 then (f 0) - (f 0) / 144 * 144 else if p1 = 3 then sr_X5_seaLevel (f 0) else if p1 = 4 then sr_X1_level f else if p1 = 5 then sr_X1_head f else if p1 = 6 then f 1 else if p1 = 7 then f 2 else if p1 = 8 then f 3 else if p1 = 9 then f 4 else if p1 = 10 then f 5 else if p1 = 11 then if (sr_X1_isBirdHour f) = 0 then 0 else 1 else if p1 = 12 then sr_X5_tideHeight ((f 0) / 144) else (-1000000001)
abbrev po_X5_now (cI cC cL : ClassId) (x0 h o t1 x1 y1 z1 x2 s0 s01 s02 s03 s1 s11 s12 s13 s2 s21 s22 s23 s3 s31 s32 s33 h1 h2 h3 y2 o1 o2 o3 : Nat) (hf f se to re pf tf ch of ose oto ore kf : Nat → Int32) (p1 : Int32) (sf : Nat → Nat → Int32) (sse : Nat → Nat → Int32) (sto : Nat → Nat → Int32) (sre : Nat → Nat → Int32) : Int32 → va_W → Prop := fun r w' => sr_X5_now f p1 = r ∧ [oX x0 h o t1 x1 y1 z1, oH x1 x2 hf, aL cL x2 (gS s0 s1 s2 s3), oL s0 s01 s02 s03 (sf 0), aI cI s01 3 (sse 0), aI cI s02 7 (sto 0), aI cI s03 60 (sre 0), oL s1 s11 s12 s13 (sf 1), aI cI s11 3 (sse 1), aI cI s12 7 (sto 1), aI cI s13 60 (sre 1), oL s2 s21 s22 s23 (sf 2), aI cI s21 3 (sse 2), aI cI s22 7 (sto 2), aI cI s23 60 (sre 2), oL s3 s31 s32 s33 (sf 3), aI cI s31 3 (sse 3), aI cI s32 7 (sto 3), aI cI s33 60 (sre 3), oL h h1 h2 h3 f, aI cI h1 3 se, aI cI h2 7 to, aI cI h3 60 re, oP z1 pf, oT y1 y2 tf, aC cC y2 60 ch, oL o o1 o2 o3 of, aI cI o1 3 ose, aI cI o2 7 oto, aI cI o3 60 ore, oK t1 kf] = w'
set_option maxHeartbeats 4000000 in
set_option maxRecDepth 100000 in
theorem ct_X5_now (l : Launch) (D : va_G) (cI cC cL : ClassId) (x0 h o t1 x1 y1 z1 x2 s0 s01 s02 s03 s1 s11 s12 s13 s2 s21 s22 s23 s3 s31 s32 s33 h1 h2 h3 y2 o1 o2 o3 : Nat) (hf f se to re pf tf ch of ose oto ore kf : Nat → Int32) (p1 : Int32) (sf : Nat → Nat → Int32) (sse : Nat → Nat → Int32) (sto : Nat → Nat → Int32) (sre : Nat → Nat → Int32) : ag_MI l yX5_now cX5_now 2 .int 3 63 D cI cC cL [.ref x0, .int p1] [oX x0 h o t1 x1 y1 z1, oH x1 x2 hf, aL cL x2 (gS s0 s1 s2 s3), oL s0 s01 s02 s03 (sf 0), aI cI s01 3 (sse 0), aI cI s02 7 (sto 0), aI cI s03 60 (sre 0), oL s1 s11 s12 s13 (sf 1), aI cI s11 3 (sse 1), aI cI s12 7 (sto 1), aI cI s13 60 (sre 1), oL s2 s21 s22 s23 (sf 2), aI cI s21 3 (sse 2), aI cI s22 7 (sto 2), aI cI s23 60 (sre 2), oL s3 s31 s32 s33 (sf 3), aI cI s31 3 (sse 3), aI cI s32 7 (sto 3), aI cI s33 60 (sre 3), oL h h1 h2 h3 f, aI cI h1 3 se, aI cI h2 7 to, aI cI h3 60 re, oP z1 pf, oT y1 y2 tf, aC cC y2 60 ch, oL o o1 o2 o3 of, aI cI o1 3 ose, aI cI o2 7 oto, aI cI o3 60 ore, oK t1 kf] (po_X5_now cI cC cL x0 h o t1 x1 y1 z1 x2 s0 s01 s02 s03 s1 s11 s12 s13 s2 s21 s22 s23 s3 s31 s32 s33 h1 h2 h3 y2 o1 o2 o3 hf f se to re pf tf ch of ose oto ore kf p1 sf sse sto sre) := by
  refine ag_MI.of (plainFor_of_name (by decide)) (Nat.le_of_ble_eq_true rfl) ?_
  intro p e s m below meth c hx hb hr hlocks hml hown hmn hG hK A hN hA H locs hP hD hS ls hl
  have hl : lv_has ls 2 [(0, .ref x0), (1, .int p1)] := hl
  refine lv_iload_n hx hb dX5_now_0 rfl (lv_at hl 1 rfl) ?_
  by_cases c_1_0 : p1 = 0
  · refine lv_tableIn (off := 67) (tgt := 68) hx hb dX5_now_1 (by rw [c_1_0]; decide) (by rw [c_1_0]; decide) (by rw [c_1_0]; rfl) (by decide) ?_
    refine lv_aload_n hx hb dX5_now_68 rfl (lv_at hl 0 rfl) ?_
    refine ag_getX5 (v := .ref h) hx hb hG hown hK hP 0 0 rfl (by decide) k_217 rfl dX5_now_69 ?_
    refine ag_getX1 (v := .int (f 0)) hx hb hG hown hK hP 19 0 rfl (by decide) k_54 rfl dX5_now_72 ?_
    exact ag_iret [x0, x1, x2, s0, s01, s02, s03, s1, s11, s12, s13, s2, s21, s22, s23, s3, s31, s32, s33, h, h1, h2, h3, z1, y1, y2, o, o1, o2, o3, t1] hx hb hr rfl hlocks hP hS rfl rfl ⟨(by unfold sr_X5_now; rw [if_pos c_1_0]), rfl⟩ dX5_now_75
  · by_cases c_1_1 : p1 = 1
    · refine lv_tableIn (off := 75) (tgt := 76) hx hb dX5_now_1 (by rw [c_1_1]; decide) (by rw [c_1_1]; decide) (by rw [c_1_1]; rfl) (by decide) ?_
      refine lv_aload_n hx hb dX5_now_76 rfl (lv_at hl 0 rfl) ?_
      refine ag_getX5 (v := .ref h) hx hb hG hown hK hP 0 0 rfl (by decide) k_217 rfl dX5_now_77 ?_
      refine ag_getX1 (v := .int (f 0)) hx hb hG hown hK hP 19 0 rfl (by decide) k_54 rfl dX5_now_80 ?_
      refine lv_sipush (v := 144) hx hb dX5_now_83 (by decide) ?_
      refine lv_idiv hx hb dX5_now_86 (by decide) ?_
      exact ag_iret [x0, x1, x2, s0, s01, s02, s03, s1, s11, s12, s13, s2, s21, s22, s23, s3, s31, s32, s33, h, h1, h2, h3, z1, y1, y2, o, o1, o2, o3, t1] hx hb hr rfl hlocks hP hS rfl rfl ⟨(by unfold sr_X5_now; rw [if_neg c_1_0, if_pos c_1_1]), rfl⟩ dX5_now_87
    · by_cases c_1_2 : p1 = 2
      · refine lv_tableIn (off := 87) (tgt := 88) hx hb dX5_now_1 (by rw [c_1_2]; decide) (by rw [c_1_2]; decide) (by rw [c_1_2]; rfl) (by decide) ?_
        refine lv_aload_n hx hb dX5_now_88 rfl (lv_at hl 0 rfl) ?_
        refine ag_getX5 (v := .ref h) hx hb hG hown hK hP 0 0 rfl (by decide) k_217 rfl dX5_now_89 ?_
        refine ag_getX1 (v := .int (f 0)) hx hb hG hown hK hP 19 0 rfl (by decide) k_54 rfl dX5_now_92 ?_
        refine lv_sipush (v := 144) hx hb dX5_now_95 (by decide) ?_
        refine lv_irem hx hb dX5_now_98 (by decide) ?_
        exact ag_iret [x0, x1, x2, s0, s01, s02, s03, s1, s11, s12, s13, s2, s21, s22, s23, s3, s31, s32, s33, h, h1, h2, h3, z1, y1, y2, o, o1, o2, o3, t1] hx hb hr rfl hlocks hP hS rfl rfl ⟨(by unfold sr_X5_now; rw [if_neg c_1_0, if_neg c_1_1, if_pos c_1_2]), rfl⟩ dX5_now_99
      · by_cases c_1_3 : p1 = 3
        · refine lv_tableIn (off := 99) (tgt := 100) hx hb dX5_now_1 (by rw [c_1_3]; decide) (by rw [c_1_3]; decide) (by rw [c_1_3]; rfl) (by decide) ?_
          refine lv_aload_n hx hb dX5_now_100 rfl (lv_at hl 0 rfl) ?_
          refine ag_getX5 (v := .ref h) hx hb hG hown hK hP 0 0 rfl (by decide) k_217 rfl dX5_now_101 ?_
          refine ag_getX1 (v := .int (f 0)) hx hb hG hown hK hP 19 0 rfl (by decide) k_54 rfl dX5_now_104 ?_
          refine ag_callSi (As := [.int (f 0)]) (rest := []) hx hb hml hown hG hK hN hA hP hD hS hl (ct_X5_seaLevel l D cI cC cL (f 0)) fX5_seaLevel k_388 ag_cut_0 rfl (Nat.le_of_ble_eq_true rfl) ⟨Nat.le_of_ble_eq_true rfl, Nat.le_of_ble_eq_true rfl⟩ ⟨Nat.zero_le _, Nat.zero_le _⟩ dX5_now_107 (fun r w1 H locs hw hP hD hS => ?_)
          obtain ⟨rfl, hw⟩ := hw
          subst hw
          have hP : va_P D vwCl [oX x0 h o t1 x1 y1 z1, oH x1 x2 hf, aL cL x2 (gS s0 s1 s2 s3), oL s0 s01 s02 s03 (sf 0), aI cI s01 3 (sse 0), aI cI s02 7 (sto 0), aI cI s03 60 (sre 0), oL s1 s11 s12 s13 (sf 1), aI cI s11 3 (sse 1), aI cI s12 7 (sto 1), aI cI s13 60 (sre 1), oL s2 s21 s22 s23 (sf 2), aI cI s21 3 (sse 2), aI cI s22 7 (sto 2), aI cI s23 60 (sre 2), oL s3 s31 s32 s33 (sf 3), aI cI s31 3 (sse 3), aI cI s32 7 (sto 3), aI cI s33 60 (sre 3), oL h h1 h2 h3 f, aI cI h1 3 se, aI cI h2 7 to, aI cI h3 60 re, oP z1 pf, oT y1 y2 tf, aC cC y2 60 ch, oL o o1 o2 o3 of, aI cI o1 3 ose, aI cI o2 7 oto, aI cI o3 60 ore, oK t1 kf] H := hP
          have hD : va_D A [oX x0 h o t1 x1 y1 z1, oH x1 x2 hf, aL cL x2 (gS s0 s1 s2 s3), oL s0 s01 s02 s03 (sf 0), aI cI s01 3 (sse 0), aI cI s02 7 (sto 0), aI cI s03 60 (sre 0), oL s1 s11 s12 s13 (sf 1), aI cI s11 3 (sse 1), aI cI s12 7 (sto 1), aI cI s13 60 (sre 1), oL s2 s21 s22 s23 (sf 2), aI cI s21 3 (sse 2), aI cI s22 7 (sto 2), aI cI s23 60 (sre 2), oL s3 s31 s32 s33 (sf 3), aI cI s31 3 (sse 3), aI cI s32 7 (sto 3), aI cI s33 60 (sre 3), oL h h1 h2 h3 f, aI cI h1 3 se, aI cI h2 7 to, aI cI h3 60 re, oP z1 pf, oT y1 y2 tf, aC cC y2 60 ch, oL o o1 o2 o3 of, aI cI o1 3 ose, aI cI o2 7 oto, aI cI o3 60 ore, oK t1 kf] := hD
          exact ag_iret [x0, x1, x2, s0, s01, s02, s03, s1, s11, s12, s13, s2, s21, s22, s23, s3, s31, s32, s33, h, h1, h2, h3, z1, y1, y2, o, o1, o2, o3, t1] hx hb hr rfl hlocks hP hS rfl rfl ⟨(by unfold sr_X5_now; rw [if_neg c_1_0, if_neg c_1_1, if_neg c_1_2, if_pos c_1_3]), rfl⟩ dX5_now_110
        · by_cases c_1_4 : p1 = 4
          · refine lv_tableIn (off := 110) (tgt := 111) hx hb dX5_now_1 (by rw [c_1_4]; decide) (by rw [c_1_4]; decide) (by rw [c_1_4]; rfl) (by decide) ?_
            refine lv_aload_n hx hb dX5_now_111 rfl (lv_at hl 0 rfl) ?_
            refine ag_getX5 (v := .ref h) hx hb hG hown hK hP 0 0 rfl (by decide) k_217 rfl dX5_now_112 ?_
            refine ag_callVi (As := []) (rest := []) hx hb hml hown hG hK hN hA hP hD hS hl (ct_X1_level l D cI cC cL h h1 h2 h3 f se to re) fX1_level k_393 (ag_cut_1 [oX x0 h o t1 x1 y1 z1, oH x1 x2 hf, aL cL x2 (gS s0 s1 s2 s3), oL s0 s01 s02 s03 (sf 0), aI cI s01 3 (sse 0), aI cI s02 7 (sto 0), aI cI s03 60 (sre 0), oL s1 s11 s12 s13 (sf 1), aI cI s11 3 (sse 1), aI cI s12 7 (sto 1), aI cI s13 60 (sre 1), oL s2 s21 s22 s23 (sf 2), aI cI s21 3 (sse 2), aI cI s22 7 (sto 2), aI cI s23 60 (sre 2), oL s3 s31 s32 s33 (sf 3), aI cI s31 3 (sse 3), aI cI s32 7 (sto 3), aI cI s33 60 (sre 3)] [oP z1 pf, oT y1 y2 tf, aC cC y2 60 ch, oL o o1 o2 o3 of, aI cI o1 3 ose, aI cI o2 7 oto, aI cI o3 60 ore, oK t1 kf] rfl) (q0 := 19) rfl rfl rfl rfl (Nat.le_of_ble_eq_true rfl) ⟨Nat.le_of_ble_eq_true rfl, Nat.le_of_ble_eq_true rfl⟩ ⟨Nat.zero_le _, Nat.zero_le _⟩ dX5_now_115 (fun r w1 H locs hw hP hD hS => ?_)
            obtain ⟨rfl, hw⟩ := hw
            subst hw
            have hP : va_P D vwCl [oX x0 h o t1 x1 y1 z1, oH x1 x2 hf, aL cL x2 (gS s0 s1 s2 s3), oL s0 s01 s02 s03 (sf 0), aI cI s01 3 (sse 0), aI cI s02 7 (sto 0), aI cI s03 60 (sre 0), oL s1 s11 s12 s13 (sf 1), aI cI s11 3 (sse 1), aI cI s12 7 (sto 1), aI cI s13 60 (sre 1), oL s2 s21 s22 s23 (sf 2), aI cI s21 3 (sse 2), aI cI s22 7 (sto 2), aI cI s23 60 (sre 2), oL s3 s31 s32 s33 (sf 3), aI cI s31 3 (sse 3), aI cI s32 7 (sto 3), aI cI s33 60 (sre 3), oL h h1 h2 h3 f, aI cI h1 3 se, aI cI h2 7 to, aI cI h3 60 re, oP z1 pf, oT y1 y2 tf, aC cC y2 60 ch, oL o o1 o2 o3 of, aI cI o1 3 ose, aI cI o2 7 oto, aI cI o3 60 ore, oK t1 kf] H := hP
            have hD : va_D A [oX x0 h o t1 x1 y1 z1, oH x1 x2 hf, aL cL x2 (gS s0 s1 s2 s3), oL s0 s01 s02 s03 (sf 0), aI cI s01 3 (sse 0), aI cI s02 7 (sto 0), aI cI s03 60 (sre 0), oL s1 s11 s12 s13 (sf 1), aI cI s11 3 (sse 1), aI cI s12 7 (sto 1), aI cI s13 60 (sre 1), oL s2 s21 s22 s23 (sf 2), aI cI s21 3 (sse 2), aI cI s22 7 (sto 2), aI cI s23 60 (sre 2), oL s3 s31 s32 s33 (sf 3), aI cI s31 3 (sse 3), aI cI s32 7 (sto 3), aI cI s33 60 (sre 3), oL h h1 h2 h3 f, aI cI h1 3 se, aI cI h2 7 to, aI cI h3 60 re, oP z1 pf, oT y1 y2 tf, aC cC y2 60 ch, oL o o1 o2 o3 of, aI cI o1 3 ose, aI cI o2 7 oto, aI cI o3 60 ore, oK t1 kf] := hD
            exact ag_iret [x0, x1, x2, s0, s01, s02, s03, s1, s11, s12, s13, s2, s21, s22, s23, s3, s31, s32, s33, h, h1, h2, h3, z1, y1, y2, o, o1, o2, o3, t1] hx hb hr rfl hlocks hP hS rfl rfl ⟨(by unfold sr_X5_now; rw [if_neg c_1_0, if_neg c_1_1, if_neg c_1_2, if_neg c_1_3, if_pos c_1_4]), rfl⟩ dX5_now_118
          · by_cases c_1_5 : p1 = 5
            · refine lv_tableIn (off := 118) (tgt := 119) hx hb dX5_now_1 (by rw [c_1_5]; decide) (by rw [c_1_5]; decide) (by rw [c_1_5]; rfl) (by decide) ?_
              refine lv_aload_n hx hb dX5_now_119 rfl (lv_at hl 0 rfl) ?_
              refine ag_getX5 (v := .ref h) hx hb hG hown hK hP 0 0 rfl (by decide) k_217 rfl dX5_now_120 ?_
              refine ag_callVi (As := []) (rest := []) hx hb hml hown hG hK hN hA hP hD hS hl (ct_X1_head l D cI cC cL h h1 h2 h3 f se to re) fX1_head k_394 (ag_cut_1 [oX x0 h o t1 x1 y1 z1, oH x1 x2 hf, aL cL x2 (gS s0 s1 s2 s3), oL s0 s01 s02 s03 (sf 0), aI cI s01 3 (sse 0), aI cI s02 7 (sto 0), aI cI s03 60 (sre 0), oL s1 s11 s12 s13 (sf 1), aI cI s11 3 (sse 1), aI cI s12 7 (sto 1), aI cI s13 60 (sre 1), oL s2 s21 s22 s23 (sf 2), aI cI s21 3 (sse 2), aI cI s22 7 (sto 2), aI cI s23 60 (sre 2), oL s3 s31 s32 s33 (sf 3), aI cI s31 3 (sse 3), aI cI s32 7 (sto 3), aI cI s33 60 (sre 3)] [oP z1 pf, oT y1 y2 tf, aC cC y2 60 ch, oL o o1 o2 o3 of, aI cI o1 3 ose, aI cI o2 7 oto, aI cI o3 60 ore, oK t1 kf] rfl) (q0 := 19) rfl rfl rfl rfl (Nat.le_of_ble_eq_true rfl) ⟨Nat.le_of_ble_eq_true rfl, Nat.le_of_ble_eq_true rfl⟩ ⟨Nat.zero_le _, Nat.zero_le _⟩ dX5_now_123 (fun r w1 H locs hw hP hD hS => ?_)
              obtain ⟨rfl, hw⟩ := hw
              subst hw
              have hP : va_P D vwCl [oX x0 h o t1 x1 y1 z1, oH x1 x2 hf, aL cL x2 (gS s0 s1 s2 s3), oL s0 s01 s02 s03 (sf 0), aI cI s01 3 (sse 0), aI cI s02 7 (sto 0), aI cI s03 60 (sre 0), oL s1 s11 s12 s13 (sf 1), aI cI s11 3 (sse 1), aI cI s12 7 (sto 1), aI cI s13 60 (sre 1), oL s2 s21 s22 s23 (sf 2), aI cI s21 3 (sse 2), aI cI s22 7 (sto 2), aI cI s23 60 (sre 2), oL s3 s31 s32 s33 (sf 3), aI cI s31 3 (sse 3), aI cI s32 7 (sto 3), aI cI s33 60 (sre 3), oL h h1 h2 h3 f, aI cI h1 3 se, aI cI h2 7 to, aI cI h3 60 re, oP z1 pf, oT y1 y2 tf, aC cC y2 60 ch, oL o o1 o2 o3 of, aI cI o1 3 ose, aI cI o2 7 oto, aI cI o3 60 ore, oK t1 kf] H := hP
              have hD : va_D A [oX x0 h o t1 x1 y1 z1, oH x1 x2 hf, aL cL x2 (gS s0 s1 s2 s3), oL s0 s01 s02 s03 (sf 0), aI cI s01 3 (sse 0), aI cI s02 7 (sto 0), aI cI s03 60 (sre 0), oL s1 s11 s12 s13 (sf 1), aI cI s11 3 (sse 1), aI cI s12 7 (sto 1), aI cI s13 60 (sre 1), oL s2 s21 s22 s23 (sf 2), aI cI s21 3 (sse 2), aI cI s22 7 (sto 2), aI cI s23 60 (sre 2), oL s3 s31 s32 s33 (sf 3), aI cI s31 3 (sse 3), aI cI s32 7 (sto 3), aI cI s33 60 (sre 3), oL h h1 h2 h3 f, aI cI h1 3 se, aI cI h2 7 to, aI cI h3 60 re, oP z1 pf, oT y1 y2 tf, aC cC y2 60 ch, oL o o1 o2 o3 of, aI cI o1 3 ose, aI cI o2 7 oto, aI cI o3 60 ore, oK t1 kf] := hD
              exact ag_iret [x0, x1, x2, s0, s01, s02, s03, s1, s11, s12, s13, s2, s21, s22, s23, s3, s31, s32, s33, h, h1, h2, h3, z1, y1, y2, o, o1, o2, o3, t1] hx hb hr rfl hlocks hP hS rfl rfl ⟨(by unfold sr_X5_now; rw [if_neg c_1_0, if_neg c_1_1, if_neg c_1_2, if_neg c_1_3, if_neg c_1_4, if_pos c_1_5]), rfl⟩ dX5_now_126
            · by_cases c_1_6 : p1 = 6
              · refine lv_tableIn (off := 126) (tgt := 127) hx hb dX5_now_1 (by rw [c_1_6]; decide) (by rw [c_1_6]; decide) (by rw [c_1_6]; rfl) (by decide) ?_
                refine lv_aload_n hx hb dX5_now_127 rfl (lv_at hl 0 rfl) ?_
                refine ag_getX5 (v := .ref h) hx hb hG hown hK hP 0 0 rfl (by decide) k_217 rfl dX5_now_128 ?_
                refine ag_getX1 (v := .int (f 1)) hx hb hG hown hK hP 19 1 rfl (by decide) k_57 rfl dX5_now_131 ?_
                exact ag_iret [x0, x1, x2, s0, s01, s02, s03, s1, s11, s12, s13, s2, s21, s22, s23, s3, s31, s32, s33, h, h1, h2, h3, z1, y1, y2, o, o1, o2, o3, t1] hx hb hr rfl hlocks hP hS rfl rfl ⟨(by unfold sr_X5_now; rw [if_neg c_1_0, if_neg c_1_1, if_neg c_1_2, if_neg c_1_3, if_neg c_1_4, if_neg c_1_5, if_pos c_1_6]), rfl⟩ dX5_now_134
              · by_cases c_1_7 : p1 = 7
                · refine lv_tableIn (off := 134) (tgt := 135) hx hb dX5_now_1 (by rw [c_1_7]; decide) (by rw [c_1_7]; decide) (by rw [c_1_7]; rfl) (by decide) ?_
                  refine lv_aload_n hx hb dX5_now_135 rfl (lv_at hl 0 rfl) ?_
                  refine ag_getX5 (v := .ref h) hx hb hG hown hK hP 0 0 rfl (by decide) k_217 rfl dX5_now_136 ?_
                  refine ag_getX1 (v := .int (f 2)) hx hb hG hown hK hP 19 2 rfl (by decide) k_60 rfl dX5_now_139 ?_
                  exact ag_iret [x0, x1, x2, s0, s01, s02, s03, s1, s11, s12, s13, s2, s21, s22, s23, s3, s31, s32, s33, h, h1, h2, h3, z1, y1, y2, o, o1, o2, o3, t1] hx hb hr rfl hlocks hP hS rfl rfl ⟨(by unfold sr_X5_now; rw [if_neg c_1_0, if_neg c_1_1, if_neg c_1_2, if_neg c_1_3, if_neg c_1_4, if_neg c_1_5, if_neg c_1_6, if_pos c_1_7]), rfl⟩ dX5_now_142
                · by_cases c_1_8 : p1 = 8
                  · refine lv_tableIn (off := 142) (tgt := 143) hx hb dX5_now_1 (by rw [c_1_8]; decide) (by rw [c_1_8]; decide) (by rw [c_1_8]; rfl) (by decide) ?_
                    refine lv_aload_n hx hb dX5_now_143 rfl (lv_at hl 0 rfl) ?_
                    refine ag_getX5 (v := .ref h) hx hb hG hown hK hP 0 0 rfl (by decide) k_217 rfl dX5_now_144 ?_
                    refine ag_getX1 (v := .int (f 3)) hx hb hG hown hK hP 19 3 rfl (by decide) k_63 rfl dX5_now_147 ?_
                    exact ag_iret [x0, x1, x2, s0, s01, s02, s03, s1, s11, s12, s13, s2, s21, s22, s23, s3, s31, s32, s33, h, h1, h2, h3, z1, y1, y2, o, o1, o2, o3, t1] hx hb hr rfl hlocks hP hS rfl rfl ⟨(by unfold sr_X5_now; rw [if_neg c_1_0, if_neg c_1_1, if_neg c_1_2, if_neg c_1_3, if_neg c_1_4, if_neg c_1_5, if_neg c_1_6, if_neg c_1_7, if_pos c_1_8]), rfl⟩ dX5_now_150
                  · by_cases c_1_9 : p1 = 9
                    · refine lv_tableIn (off := 150) (tgt := 151) hx hb dX5_now_1 (by rw [c_1_9]; decide) (by rw [c_1_9]; decide) (by rw [c_1_9]; rfl) (by decide) ?_
                      refine lv_aload_n hx hb dX5_now_151 rfl (lv_at hl 0 rfl) ?_
                      refine ag_getX5 (v := .ref h) hx hb hG hown hK hP 0 0 rfl (by decide) k_217 rfl dX5_now_152 ?_
                      refine ag_getX1 (v := .int (f 4)) hx hb hG hown hK hP 19 4 rfl (by decide) k_66 rfl dX5_now_155 ?_
                      exact ag_iret [x0, x1, x2, s0, s01, s02, s03, s1, s11, s12, s13, s2, s21, s22, s23, s3, s31, s32, s33, h, h1, h2, h3, z1, y1, y2, o, o1, o2, o3, t1] hx hb hr rfl hlocks hP hS rfl rfl ⟨(by unfold sr_X5_now; rw [if_neg c_1_0, if_neg c_1_1, if_neg c_1_2, if_neg c_1_3, if_neg c_1_4, if_neg c_1_5, if_neg c_1_6, if_neg c_1_7, if_neg c_1_8, if_pos c_1_9]), rfl⟩ dX5_now_158
                    · by_cases c_1_10 : p1 = 10
                      · refine lv_tableIn (off := 158) (tgt := 159) hx hb dX5_now_1 (by rw [c_1_10]; decide) (by rw [c_1_10]; decide) (by rw [c_1_10]; rfl) (by decide) ?_
                        refine lv_aload_n hx hb dX5_now_159 rfl (lv_at hl 0 rfl) ?_
                        refine ag_getX5 (v := .ref h) hx hb hG hown hK hP 0 0 rfl (by decide) k_217 rfl dX5_now_160 ?_
                        refine ag_getX1 (v := .int (f 5)) hx hb hG hown hK hP 19 5 rfl (by decide) k_69 rfl dX5_now_163 ?_
                        exact ag_iret [x0, x1, x2, s0, s01, s02, s03, s1, s11, s12, s13, s2, s21, s22, s23, s3, s31, s32, s33, h, h1, h2, h3, z1, y1, y2, o, o1, o2, o3, t1] hx hb hr rfl hlocks hP hS rfl rfl ⟨(by unfold sr_X5_now; rw [if_neg c_1_0, if_neg c_1_1, if_neg c_1_2, if_neg c_1_3, if_neg c_1_4, if_neg c_1_5, if_neg c_1_6, if_neg c_1_7, if_neg c_1_8, if_neg c_1_9, if_pos c_1_10]), rfl⟩ dX5_now_166
                      · by_cases c_1_11 : p1 = 11
                        · refine lv_tableIn (off := 166) (tgt := 167) hx hb dX5_now_1 (by rw [c_1_11]; decide) (by rw [c_1_11]; decide) (by rw [c_1_11]; rfl) (by decide) ?_
                          refine lv_aload_n hx hb dX5_now_167 rfl (lv_at hl 0 rfl) ?_
                          refine ag_getX5 (v := .ref h) hx hb hG hown hK hP 0 0 rfl (by decide) k_217 rfl dX5_now_168 ?_
                          refine ag_callVi (As := []) (rest := []) hx hb hml hown hG hK hN hA hP hD hS hl (ct_X1_isBirdHour l D cI cC cL h h1 h2 h3 f se to re) fX1_isBirdHour k_395 (ag_cut_1 [oX x0 h o t1 x1 y1 z1, oH x1 x2 hf, aL cL x2 (gS s0 s1 s2 s3), oL s0 s01 s02 s03 (sf 0), aI cI s01 3 (sse 0), aI cI s02 7 (sto 0), aI cI s03 60 (sre 0), oL s1 s11 s12 s13 (sf 1), aI cI s11 3 (sse 1), aI cI s12 7 (sto 1), aI cI s13 60 (sre 1), oL s2 s21 s22 s23 (sf 2), aI cI s21 3 (sse 2), aI cI s22 7 (sto 2), aI cI s23 60 (sre 2), oL s3 s31 s32 s33 (sf 3), aI cI s31 3 (sse 3), aI cI s32 7 (sto 3), aI cI s33 60 (sre 3)] [oP z1 pf, oT y1 y2 tf, aC cC y2 60 ch, oL o o1 o2 o3 of, aI cI o1 3 ose, aI cI o2 7 oto, aI cI o3 60 ore, oK t1 kf] rfl) (q0 := 19) rfl rfl rfl rfl (Nat.le_of_ble_eq_true rfl) ⟨Nat.le_of_ble_eq_true rfl, Nat.le_of_ble_eq_true rfl⟩ ⟨Nat.zero_le _, Nat.zero_le _⟩ dX5_now_171 (fun r w1 H locs hw hP hD hS => ?_)
                          obtain ⟨rfl, hw⟩ := hw
                          subst hw
                          have hP : va_P D vwCl [oX x0 h o t1 x1 y1 z1, oH x1 x2 hf, aL cL x2 (gS s0 s1 s2 s3), oL s0 s01 s02 s03 (sf 0), aI cI s01 3 (sse 0), aI cI s02 7 (sto 0), aI cI s03 60 (sre 0), oL s1 s11 s12 s13 (sf 1), aI cI s11 3 (sse 1), aI cI s12 7 (sto 1), aI cI s13 60 (sre 1), oL s2 s21 s22 s23 (sf 2), aI cI s21 3 (sse 2), aI cI s22 7 (sto 2), aI cI s23 60 (sre 2), oL s3 s31 s32 s33 (sf 3), aI cI s31 3 (sse 3), aI cI s32 7 (sto 3), aI cI s33 60 (sre 3), oL h h1 h2 h3 f, aI cI h1 3 se, aI cI h2 7 to, aI cI h3 60 re, oP z1 pf, oT y1 y2 tf, aC cC y2 60 ch, oL o o1 o2 o3 of, aI cI o1 3 ose, aI cI o2 7 oto, aI cI o3 60 ore, oK t1 kf] H := hP
                          have hD : va_D A [oX x0 h o t1 x1 y1 z1, oH x1 x2 hf, aL cL x2 (gS s0 s1 s2 s3), oL s0 s01 s02 s03 (sf 0), aI cI s01 3 (sse 0), aI cI s02 7 (sto 0), aI cI s03 60 (sre 0), oL s1 s11 s12 s13 (sf 1), aI cI s11 3 (sse 1), aI cI s12 7 (sto 1), aI cI s13 60 (sre 1), oL s2 s21 s22 s23 (sf 2), aI cI s21 3 (sse 2), aI cI s22 7 (sto 2), aI cI s23 60 (sre 2), oL s3 s31 s32 s33 (sf 3), aI cI s31 3 (sse 3), aI cI s32 7 (sto 3), aI cI s33 60 (sre 3), oL h h1 h2 h3 f, aI cI h1 3 se, aI cI h2 7 to, aI cI h3 60 re, oP z1 pf, oT y1 y2 tf, aC cC y2 60 ch, oL o o1 o2 o3 of, aI cI o1 3 ose, aI cI o2 7 oto, aI cI o3 60 ore, oK t1 kf] := hD
                          refine lv_if_eq (tgt := 181) hx hb dX5_now_174 (by decide) (fun c_174 => ?_) (fun c_174 => ?_)
                          · refine lv_iconst (v := 0) hx hb dX5_now_181 (by decide) ?_
                            exact ag_iret [x0, x1, x2, s0, s01, s02, s03, s1, s11, s12, s13, s2, s21, s22, s23, s3, s31, s32, s33, h, h1, h2, h3, z1, y1, y2, o, o1, o2, o3, t1] hx hb hr rfl hlocks hP hS rfl rfl ⟨(by unfold sr_X5_now; rw [if_neg c_1_0, if_neg c_1_1, if_neg c_1_2, if_neg c_1_3, if_neg c_1_4, if_neg c_1_5, if_neg c_1_6, if_neg c_1_7, if_neg c_1_8, if_neg c_1_9, if_neg c_1_10, if_pos c_1_11, if_pos c_174]), rfl⟩ dX5_now_182
                          · refine lv_iconst (v := 1) hx hb dX5_now_177 (by decide) ?_
                            refine lv_goto (tgt := 182) hx hb dX5_now_178 (by decide) ?_
                            exact ag_iret [x0, x1, x2, s0, s01, s02, s03, s1, s11, s12, s13, s2, s21, s22, s23, s3, s31, s32, s33, h, h1, h2, h3, z1, y1, y2, o, o1, o2, o3, t1] hx hb hr rfl hlocks hP hS rfl rfl ⟨(by unfold sr_X5_now; rw [if_neg c_1_0, if_neg c_1_1, if_neg c_1_2, if_neg c_1_3, if_neg c_1_4, if_neg c_1_5, if_neg c_1_6, if_neg c_1_7, if_neg c_1_8, if_neg c_1_9, if_neg c_1_10, if_pos c_1_11, if_neg c_174]), rfl⟩ dX5_now_182
                        · by_cases c_1_12 : p1 = 12
                          · refine lv_tableIn (off := 182) (tgt := 183) hx hb dX5_now_1 (by rw [c_1_12]; decide) (by rw [c_1_12]; decide) (by rw [c_1_12]; rfl) (by decide) ?_
                            refine lv_aload_n hx hb dX5_now_183 rfl (lv_at hl 0 rfl) ?_
                            refine ag_getX5 (v := .ref h) hx hb hG hown hK hP 0 0 rfl (by decide) k_217 rfl dX5_now_184 ?_
                            refine ag_getX1 (v := .int (f 0)) hx hb hG hown hK hP 19 0 rfl (by decide) k_54 rfl dX5_now_187 ?_
                            refine lv_sipush (v := 144) hx hb dX5_now_190 (by decide) ?_
                            refine lv_idiv hx hb dX5_now_193 (by decide) ?_
                            refine ag_callSi (As := [.int ((f 0) / 144)]) (rest := []) hx hb hml hown hG hK hN hA hP hD hS hl (ct_X5_tideHeight l D cI cC cL ((f 0) / 144)) fX5_tideHeight k_319 ag_cut_0 rfl (Nat.le_of_ble_eq_true rfl) ⟨Nat.le_of_ble_eq_true rfl, Nat.le_of_ble_eq_true rfl⟩ ⟨Nat.zero_le _, Nat.zero_le _⟩ dX5_now_194 (fun r w1 H locs hw hP hD hS => ?_)
                            obtain ⟨rfl, hw⟩ := hw
                            subst hw
                            have hP : va_P D vwCl [oX x0 h o t1 x1 y1 z1, oH x1 x2 hf, aL cL x2 (gS s0 s1 s2 s3), oL s0 s01 s02 s03 (sf 0), aI cI s01 3 (sse 0), aI cI s02 7 (sto 0), aI cI s03 60 (sre 0), oL s1 s11 s12 s13 (sf 1), aI cI s11 3 (sse 1), aI cI s12 7 (sto 1), aI cI s13 60 (sre 1), oL s2 s21 s22 s23 (sf 2), aI cI s21 3 (sse 2), aI cI s22 7 (sto 2), aI cI s23 60 (sre 2), oL s3 s31 s32 s33 (sf 3), aI cI s31 3 (sse 3), aI cI s32 7 (sto 3), aI cI s33 60 (sre 3), oL h h1 h2 h3 f, aI cI h1 3 se, aI cI h2 7 to, aI cI h3 60 re, oP z1 pf, oT y1 y2 tf, aC cC y2 60 ch, oL o o1 o2 o3 of, aI cI o1 3 ose, aI cI o2 7 oto, aI cI o3 60 ore, oK t1 kf] H := hP
                            have hD : va_D A [oX x0 h o t1 x1 y1 z1, oH x1 x2 hf, aL cL x2 (gS s0 s1 s2 s3), oL s0 s01 s02 s03 (sf 0), aI cI s01 3 (sse 0), aI cI s02 7 (sto 0), aI cI s03 60 (sre 0), oL s1 s11 s12 s13 (sf 1), aI cI s11 3 (sse 1), aI cI s12 7 (sto 1), aI cI s13 60 (sre 1), oL s2 s21 s22 s23 (sf 2), aI cI s21 3 (sse 2), aI cI s22 7 (sto 2), aI cI s23 60 (sre 2), oL s3 s31 s32 s33 (sf 3), aI cI s31 3 (sse 3), aI cI s32 7 (sto 3), aI cI s33 60 (sre 3), oL h h1 h2 h3 f, aI cI h1 3 se, aI cI h2 7 to, aI cI h3 60 re, oP z1 pf, oT y1 y2 tf, aC cC y2 60 ch, oL o o1 o2 o3 of, aI cI o1 3 ose, aI cI o2 7 oto, aI cI o3 60 ore, oK t1 kf] := hD
                            exact ag_iret [x0, x1, x2, s0, s01, s02, s03, s1, s11, s12, s13, s2, s21, s22, s23, s3, s31, s32, s33, h, h1, h2, h3, z1, y1, y2, o, o1, o2, o3, t1] hx hb hr rfl hlocks hP hS rfl rfl ⟨(by unfold sr_X5_now; rw [if_neg c_1_0, if_neg c_1_1, if_neg c_1_2, if_neg c_1_3, if_neg c_1_4, if_neg c_1_5, if_neg c_1_6, if_neg c_1_7, if_neg c_1_8, if_neg c_1_9, if_neg c_1_10, if_neg c_1_11, if_pos c_1_12]), rfl⟩ dX5_now_197
                          · refine lv_tableOut (tgt := 198) hx hb dX5_now_1 (by have h0 := lv_neT c_1_0 (a := 0) rfl; have h1 := lv_neT c_1_1 (a := 1) rfl; have h2 := lv_neT c_1_2 (a := 2) rfl; have h3 := lv_neT c_1_3 (a := 3) rfl; have h4 := lv_neT c_1_4 (a := 4) rfl; have h5 := lv_neT c_1_5 (a := 5) rfl; have h6 := lv_neT c_1_6 (a := 6) rfl; have h7 := lv_neT c_1_7 (a := 7) rfl; have h8 := lv_neT c_1_8 (a := 8) rfl; have h9 := lv_neT c_1_9 (a := 9) rfl; have h10 := lv_neT c_1_10 (a := 10) rfl; have h11 := lv_neT c_1_11 (a := 11) rfl; have h12 := lv_neT c_1_12 (a := 12) rfl; omega) (by decide) ?_
                            refine lv_ldc (v := (-1000000001)) hx hb hown (hG _ k_259) dX5_now_198 ?_
                            exact ag_iret [x0, x1, x2, s0, s01, s02, s03, s1, s11, s12, s13, s2, s21, s22, s23, s3, s31, s32, s33, h, h1, h2, h3, z1, y1, y2, o, o1, o2, o3, t1] hx hb hr rfl hlocks hP hS rfl rfl ⟨(by unfold sr_X5_now; rw [if_neg c_1_0, if_neg c_1_1, if_neg c_1_2, if_neg c_1_3, if_neg c_1_4, if_neg c_1_5, if_neg c_1_6, if_neg c_1_7, if_neg c_1_8, if_neg c_1_9, if_neg c_1_10, if_neg c_1_11, if_neg c_1_12]), rfl⟩ dX5_now_200
def sr_X5_record (f : Nat → Int32) (re : Nat → Int32) (p1 : Int32) (p2 : Int32) : Int32 := if p1 < 0 then (-1000000001) else if p2 < 0 then (-1000000001) else if p2 < 6 then if p1 < (sr_X1_firstDay f) then (-1000000004) else if p1 ≤ (sr_X1_lastDay f) then re (rs p1 + p2.toNatClampNeg) else (-1000000004) else (-1000000001)
abbrev po_X5_record (cI cC cL : ClassId) (x0 h o t1 x1 y1 z1 x2 s0 s01 s02 s03 s1 s11 s12 s13 s2 s21 s22 s23 s3 s31 s32 s33 h1 h2 h3 y2 o1 o2 o3 : Nat) (hf f se to re pf tf ch of ose oto ore kf : Nat → Int32) (p1 : Int32) (p2 : Int32) (sf : Nat → Nat → Int32) (sse : Nat → Nat → Int32) (sto : Nat → Nat → Int32) (sre : Nat → Nat → Int32) : Int32 → va_W → Prop := fun r w' => sr_X5_record f re p1 p2 = r ∧ [oX x0 h o t1 x1 y1 z1, oH x1 x2 hf, aL cL x2 (gS s0 s1 s2 s3), oL s0 s01 s02 s03 (sf 0), aI cI s01 3 (sse 0), aI cI s02 7 (sto 0), aI cI s03 60 (sre 0), oL s1 s11 s12 s13 (sf 1), aI cI s11 3 (sse 1), aI cI s12 7 (sto 1), aI cI s13 60 (sre 1), oL s2 s21 s22 s23 (sf 2), aI cI s21 3 (sse 2), aI cI s22 7 (sto 2), aI cI s23 60 (sre 2), oL s3 s31 s32 s33 (sf 3), aI cI s31 3 (sse 3), aI cI s32 7 (sto 3), aI cI s33 60 (sre 3), oL h h1 h2 h3 f, aI cI h1 3 se, aI cI h2 7 to, aI cI h3 60 re, oP z1 pf, oT y1 y2 tf, aC cC y2 60 ch, oL o o1 o2 o3 of, aI cI o1 3 ose, aI cI o2 7 oto, aI cI o3 60 ore, oK t1 kf] = w'
set_option maxHeartbeats 4000000 in
set_option maxRecDepth 100000 in
theorem ct_X5_record (l : Launch) (D : va_G) (cI cC cL : ClassId) (x0 h o t1 x1 y1 z1 x2 s0 s01 s02 s03 s1 s11 s12 s13 s2 s21 s22 s23 s3 s31 s32 s33 h1 h2 h3 y2 o1 o2 o3 : Nat) (hf f se to re pf tf ch of ose oto ore kf : Nat → Int32) (p1 : Int32) (p2 : Int32) (sf : Nat → Nat → Int32) (sse : Nat → Nat → Int32) (sto : Nat → Nat → Int32) (sre : Nat → Nat → Int32) : ag_MI l yX5_record cX5_record 3 .int 3 62 D cI cC cL [.ref x0, .int p1, .int p2] [oX x0 h o t1 x1 y1 z1, oH x1 x2 hf, aL cL x2 (gS s0 s1 s2 s3), oL s0 s01 s02 s03 (sf 0), aI cI s01 3 (sse 0), aI cI s02 7 (sto 0), aI cI s03 60 (sre 0), oL s1 s11 s12 s13 (sf 1), aI cI s11 3 (sse 1), aI cI s12 7 (sto 1), aI cI s13 60 (sre 1), oL s2 s21 s22 s23 (sf 2), aI cI s21 3 (sse 2), aI cI s22 7 (sto 2), aI cI s23 60 (sre 2), oL s3 s31 s32 s33 (sf 3), aI cI s31 3 (sse 3), aI cI s32 7 (sto 3), aI cI s33 60 (sre 3), oL h h1 h2 h3 f, aI cI h1 3 se, aI cI h2 7 to, aI cI h3 60 re, oP z1 pf, oT y1 y2 tf, aC cC y2 60 ch, oL o o1 o2 o3 of, aI cI o1 3 ose, aI cI o2 7 oto, aI cI o3 60 ore, oK t1 kf] (po_X5_record cI cC cL x0 h o t1 x1 y1 z1 x2 s0 s01 s02 s03 s1 s11 s12 s13 s2 s21 s22 s23 s3 s31 s32 s33 h1 h2 h3 y2 o1 o2 o3 hf f se to re pf tf ch of ose oto ore kf p1 p2 sf sse sto sre) := by
  refine ag_MI.of (plainFor_of_name (by decide)) (Nat.le_of_ble_eq_true rfl) ?_
  intro p e s m below meth c hx hb hr hlocks hml hown hmn hG hK A hN hA H locs hP hD hS ls hl
  have hl : lv_has ls 3 [(0, .ref x0), (1, .int p1), (2, .int p2)] := hl
  refine lv_iload_n hx hb dX5_record_0 rfl (lv_at hl 1 rfl) ?_
  refine lv_if_lt (tgt := 14) hx hb dX5_record_1 (by decide) (fun c_1 => ?_) (fun c_1 => ?_)
  · refine lv_ldc (v := (-1000000001)) hx hb hown (hG _ k_259) dX5_record_14 ?_
    exact ag_iret [x0, x1, x2, s0, s01, s02, s03, s1, s11, s12, s13, s2, s21, s22, s23, s3, s31, s32, s33, h, h1, h2, h3, z1, y1, y2, o, o1, o2, o3, t1] hx hb hr rfl hlocks hP hS rfl rfl ⟨(by unfold sr_X5_record; rw [if_pos c_1]), rfl⟩ dX5_record_16
  · refine lv_iload_n hx hb dX5_record_4 rfl (lv_at hl 2 rfl) ?_
    refine lv_if_lt (tgt := 14) hx hb dX5_record_5 (by decide) (fun c_5 => ?_) (fun c_5 => ?_)
    · refine lv_ldc (v := (-1000000001)) hx hb hown (hG _ k_259) dX5_record_14 ?_
      exact ag_iret [x0, x1, x2, s0, s01, s02, s03, s1, s11, s12, s13, s2, s21, s22, s23, s3, s31, s32, s33, h, h1, h2, h3, z1, y1, y2, o, o1, o2, o3, t1] hx hb hr rfl hlocks hP hS rfl rfl ⟨(by unfold sr_X5_record; rw [if_neg c_1, if_pos c_5]), rfl⟩ dX5_record_16
    · refine lv_iload_n hx hb dX5_record_8 rfl (lv_at hl 2 rfl) ?_
      refine lv_bipush (v := 6) hx hb dX5_record_9 (by decide) ?_
      refine lv_icmp_lt (tgt := 17) hx hb dX5_record_11 (by decide) (fun c_11 => ?_) (fun c_11 => ?_)
      · refine lv_iload_n hx hb dX5_record_17 rfl (lv_at hl 1 rfl) ?_
        refine lv_aload_n hx hb dX5_record_18 rfl (lv_at hl 0 rfl) ?_
        refine ag_getX5 (v := .ref h) hx hb hG hown hK hP 0 0 rfl (by decide) k_217 rfl dX5_record_19 ?_
        refine ag_callVi (As := []) (rest := [.int p1]) hx hb hml hown hG hK hN hA hP hD hS hl (ct_X1_firstDay l D cI cC cL h h1 h2 h3 f se to re) fX1_firstDay k_400 (ag_cut_1 [oX x0 h o t1 x1 y1 z1, oH x1 x2 hf, aL cL x2 (gS s0 s1 s2 s3), oL s0 s01 s02 s03 (sf 0), aI cI s01 3 (sse 0), aI cI s02 7 (sto 0), aI cI s03 60 (sre 0), oL s1 s11 s12 s13 (sf 1), aI cI s11 3 (sse 1), aI cI s12 7 (sto 1), aI cI s13 60 (sre 1), oL s2 s21 s22 s23 (sf 2), aI cI s21 3 (sse 2), aI cI s22 7 (sto 2), aI cI s23 60 (sre 2), oL s3 s31 s32 s33 (sf 3), aI cI s31 3 (sse 3), aI cI s32 7 (sto 3), aI cI s33 60 (sre 3)] [oP z1 pf, oT y1 y2 tf, aC cC y2 60 ch, oL o o1 o2 o3 of, aI cI o1 3 ose, aI cI o2 7 oto, aI cI o3 60 ore, oK t1 kf] rfl) (q0 := 19) rfl rfl rfl rfl (Nat.le_of_ble_eq_true rfl) ⟨Nat.le_of_ble_eq_true rfl, Nat.le_of_ble_eq_true rfl⟩ ⟨Nat.zero_le _, Nat.zero_le _⟩ dX5_record_22 (fun r w1 H locs hw hP hD hS => ?_)
        obtain ⟨rfl, hw⟩ := hw
        subst hw
        have hP : va_P D vwCl [oX x0 h o t1 x1 y1 z1, oH x1 x2 hf, aL cL x2 (gS s0 s1 s2 s3), oL s0 s01 s02 s03 (sf 0), aI cI s01 3 (sse 0), aI cI s02 7 (sto 0), aI cI s03 60 (sre 0), oL s1 s11 s12 s13 (sf 1), aI cI s11 3 (sse 1), aI cI s12 7 (sto 1), aI cI s13 60 (sre 1), oL s2 s21 s22 s23 (sf 2), aI cI s21 3 (sse 2), aI cI s22 7 (sto 2), aI cI s23 60 (sre 2), oL s3 s31 s32 s33 (sf 3), aI cI s31 3 (sse 3), aI cI s32 7 (sto 3), aI cI s33 60 (sre 3), oL h h1 h2 h3 f, aI cI h1 3 se, aI cI h2 7 to, aI cI h3 60 re, oP z1 pf, oT y1 y2 tf, aC cC y2 60 ch, oL o o1 o2 o3 of, aI cI o1 3 ose, aI cI o2 7 oto, aI cI o3 60 ore, oK t1 kf] H := hP
        have hD : va_D A [oX x0 h o t1 x1 y1 z1, oH x1 x2 hf, aL cL x2 (gS s0 s1 s2 s3), oL s0 s01 s02 s03 (sf 0), aI cI s01 3 (sse 0), aI cI s02 7 (sto 0), aI cI s03 60 (sre 0), oL s1 s11 s12 s13 (sf 1), aI cI s11 3 (sse 1), aI cI s12 7 (sto 1), aI cI s13 60 (sre 1), oL s2 s21 s22 s23 (sf 2), aI cI s21 3 (sse 2), aI cI s22 7 (sto 2), aI cI s23 60 (sre 2), oL s3 s31 s32 s33 (sf 3), aI cI s31 3 (sse 3), aI cI s32 7 (sto 3), aI cI s33 60 (sre 3), oL h h1 h2 h3 f, aI cI h1 3 se, aI cI h2 7 to, aI cI h3 60 re, oP z1 pf, oT y1 y2 tf, aC cC y2 60 ch, oL o o1 o2 o3 of, aI cI o1 3 ose, aI cI o2 7 oto, aI cI o3 60 ore, oK t1 kf] := hD
        refine lv_icmp_lt (tgt := 39) hx hb dX5_record_25 (by decide) (fun c_25 => ?_) (fun c_25 => ?_)
        · refine lv_ldc (v := (-1000000004)) hx hb hown (hG _ k_412) dX5_record_39 ?_
          exact ag_iret [x0, x1, x2, s0, s01, s02, s03, s1, s11, s12, s13, s2, s21, s22, s23, s3, s31, s32, s33, h, h1, h2, h3, z1, y1, y2, o, o1, o2, o3, t1] hx hb hr rfl hlocks hP hS rfl rfl ⟨(by unfold sr_X5_record; rw [if_neg c_1, if_neg c_5, if_pos c_11, if_pos c_25]), rfl⟩ dX5_record_41
        · refine lv_iload_n hx hb dX5_record_28 rfl (lv_at hl 1 rfl) ?_
          refine lv_aload_n hx hb dX5_record_29 rfl (lv_at hl 0 rfl) ?_
          refine ag_getX5 (v := .ref h) hx hb hG hown hK hP 0 0 rfl (by decide) k_217 rfl dX5_record_30 ?_
          refine ag_callVi (As := []) (rest := [.int p1]) hx hb hml hown hG hK hN hA hP hD hS hl (ct_X1_lastDay l D cI cC cL h h1 h2 h3 f se to re) fX1_lastDay k_411 (ag_cut_1 [oX x0 h o t1 x1 y1 z1, oH x1 x2 hf, aL cL x2 (gS s0 s1 s2 s3), oL s0 s01 s02 s03 (sf 0), aI cI s01 3 (sse 0), aI cI s02 7 (sto 0), aI cI s03 60 (sre 0), oL s1 s11 s12 s13 (sf 1), aI cI s11 3 (sse 1), aI cI s12 7 (sto 1), aI cI s13 60 (sre 1), oL s2 s21 s22 s23 (sf 2), aI cI s21 3 (sse 2), aI cI s22 7 (sto 2), aI cI s23 60 (sre 2), oL s3 s31 s32 s33 (sf 3), aI cI s31 3 (sse 3), aI cI s32 7 (sto 3), aI cI s33 60 (sre 3)] [oP z1 pf, oT y1 y2 tf, aC cC y2 60 ch, oL o o1 o2 o3 of, aI cI o1 3 ose, aI cI o2 7 oto, aI cI o3 60 ore, oK t1 kf] rfl) (q0 := 19) rfl rfl rfl rfl (Nat.le_of_ble_eq_true rfl) ⟨Nat.le_of_ble_eq_true rfl, Nat.le_of_ble_eq_true rfl⟩ ⟨Nat.zero_le _, Nat.zero_le _⟩ dX5_record_33 (fun r w1 H locs hw hP hD hS => ?_)
          obtain ⟨rfl, hw⟩ := hw
          subst hw
          have hP : va_P D vwCl [oX x0 h o t1 x1 y1 z1, oH x1 x2 hf, aL cL x2 (gS s0 s1 s2 s3), oL s0 s01 s02 s03 (sf 0), aI cI s01 3 (sse 0), aI cI s02 7 (sto 0), aI cI s03 60 (sre 0), oL s1 s11 s12 s13 (sf 1), aI cI s11 3 (sse 1), aI cI s12 7 (sto 1), aI cI s13 60 (sre 1), oL s2 s21 s22 s23 (sf 2), aI cI s21 3 (sse 2), aI cI s22 7 (sto 2), aI cI s23 60 (sre 2), oL s3 s31 s32 s33 (sf 3), aI cI s31 3 (sse 3), aI cI s32 7 (sto 3), aI cI s33 60 (sre 3), oL h h1 h2 h3 f, aI cI h1 3 se, aI cI h2 7 to, aI cI h3 60 re, oP z1 pf, oT y1 y2 tf, aC cC y2 60 ch, oL o o1 o2 o3 of, aI cI o1 3 ose, aI cI o2 7 oto, aI cI o3 60 ore, oK t1 kf] H := hP
          have hD : va_D A [oX x0 h o t1 x1 y1 z1, oH x1 x2 hf, aL cL x2 (gS s0 s1 s2 s3), oL s0 s01 s02 s03 (sf 0), aI cI s01 3 (sse 0), aI cI s02 7 (sto 0), aI cI s03 60 (sre 0), oL s1 s11 s12 s13 (sf 1), aI cI s11 3 (sse 1), aI cI s12 7 (sto 1), aI cI s13 60 (sre 1), oL s2 s21 s22 s23 (sf 2), aI cI s21 3 (sse 2), aI cI s22 7 (sto 2), aI cI s23 60 (sre 2), oL s3 s31 s32 s33 (sf 3), aI cI s31 3 (sse 3), aI cI s32 7 (sto 3), aI cI s33 60 (sre 3), oL h h1 h2 h3 f, aI cI h1 3 se, aI cI h2 7 to, aI cI h3 60 re, oP z1 pf, oT y1 y2 tf, aC cC y2 60 ch, oL o o1 o2 o3 of, aI cI o1 3 ose, aI cI o2 7 oto, aI cI o3 60 ore, oK t1 kf] := hD
          refine lv_icmp_le (tgt := 42) hx hb dX5_record_36 (by decide) (fun c_36 => ?_) (fun c_36 => ?_)
          · refine lv_aload_n hx hb dX5_record_42 rfl (lv_at hl 0 rfl) ?_
            refine ag_getX5 (v := .ref h) hx hb hG hown hK hP 0 0 rfl (by decide) k_217 rfl dX5_record_43 ?_
            refine ag_getX1 (v := .ref h3) hx hb hG hown hK hP 19 10 rfl (by decide) k_78 rfl dX5_record_46 ?_
            refine lv_iload_n hx hb dX5_record_49 rfl (lv_at hl 1 rfl) ?_
            refine ag_callSi (As := [.int p1]) (rest := [.ref h3]) hx hb hml hown hG hK hN hA hP hD hS hl (ct_X5_recordStart l D cI cC cL p1) fX5_recordStart k_413 ag_cut_0 rfl (Nat.le_of_ble_eq_true rfl) ⟨Nat.le_of_ble_eq_true rfl, Nat.le_of_ble_eq_true rfl⟩ ⟨Nat.zero_le _, Nat.zero_le _⟩ dX5_record_50 (fun r w1 H locs hw hP hD hS => ?_)
            obtain ⟨rfl, hw⟩ := hw
            subst hw
            have hP : va_P D vwCl [oX x0 h o t1 x1 y1 z1, oH x1 x2 hf, aL cL x2 (gS s0 s1 s2 s3), oL s0 s01 s02 s03 (sf 0), aI cI s01 3 (sse 0), aI cI s02 7 (sto 0), aI cI s03 60 (sre 0), oL s1 s11 s12 s13 (sf 1), aI cI s11 3 (sse 1), aI cI s12 7 (sto 1), aI cI s13 60 (sre 1), oL s2 s21 s22 s23 (sf 2), aI cI s21 3 (sse 2), aI cI s22 7 (sto 2), aI cI s23 60 (sre 2), oL s3 s31 s32 s33 (sf 3), aI cI s31 3 (sse 3), aI cI s32 7 (sto 3), aI cI s33 60 (sre 3), oL h h1 h2 h3 f, aI cI h1 3 se, aI cI h2 7 to, aI cI h3 60 re, oP z1 pf, oT y1 y2 tf, aC cC y2 60 ch, oL o o1 o2 o3 of, aI cI o1 3 ose, aI cI o2 7 oto, aI cI o3 60 ore, oK t1 kf] H := hP
            have hD : va_D A [oX x0 h o t1 x1 y1 z1, oH x1 x2 hf, aL cL x2 (gS s0 s1 s2 s3), oL s0 s01 s02 s03 (sf 0), aI cI s01 3 (sse 0), aI cI s02 7 (sto 0), aI cI s03 60 (sre 0), oL s1 s11 s12 s13 (sf 1), aI cI s11 3 (sse 1), aI cI s12 7 (sto 1), aI cI s13 60 (sre 1), oL s2 s21 s22 s23 (sf 2), aI cI s21 3 (sse 2), aI cI s22 7 (sto 2), aI cI s23 60 (sre 2), oL s3 s31 s32 s33 (sf 3), aI cI s31 3 (sse 3), aI cI s32 7 (sto 3), aI cI s33 60 (sre 3), oL h h1 h2 h3 f, aI cI h1 3 se, aI cI h2 7 to, aI cI h3 60 re, oP z1 pf, oT y1 y2 tf, aC cC y2 60 ch, oL o o1 o2 o3 of, aI cI o1 3 ose, aI cI o2 7 oto, aI cI o3 60 ore, oK t1 kf] := hD
            refine lv_iload_n hx hb dX5_record_53 rfl (lv_at hl 2 rfl) ?_
            refine lv_iadd hx hb dX5_record_54 ?_
            refine ag_ild (k := rs p1 + p2.toNatClampNeg) (v := re (rs p1 + p2.toNatClampNeg)) hx hb hK hP 22 rfl ((congrArg (· + p2) (rs_eq p1)).trans ((congrArg (nI (rs p1) + ·) (ag_ixr (n := 6) (by decide) c_5 c_11).1).trans (nI_add _ _))) (by have := rs_le p1; have := (ag_ixr (n := 6) (by decide) c_5 c_11).2; omega) (Nat.le_of_ble_eq_true rfl) rfl dX5_record_55 ?_
            exact ag_iret [x0, x1, x2, s0, s01, s02, s03, s1, s11, s12, s13, s2, s21, s22, s23, s3, s31, s32, s33, h, h1, h2, h3, z1, y1, y2, o, o1, o2, o3, t1] hx hb hr rfl hlocks hP hS rfl rfl ⟨(by unfold sr_X5_record; rw [if_neg c_1, if_neg c_5, if_pos c_11, if_neg c_25, if_pos c_36]), rfl⟩ dX5_record_56
          · refine lv_ldc (v := (-1000000004)) hx hb hown (hG _ k_412) dX5_record_39 ?_
            exact ag_iret [x0, x1, x2, s0, s01, s02, s03, s1, s11, s12, s13, s2, s21, s22, s23, s3, s31, s32, s33, h, h1, h2, h3, z1, y1, y2, o, o1, o2, o3, t1] hx hb hr rfl hlocks hP hS rfl rfl ⟨(by unfold sr_X5_record; rw [if_neg c_1, if_neg c_5, if_pos c_11, if_neg c_25, if_neg c_36]), rfl⟩ dX5_record_41
      · refine lv_ldc (v := (-1000000001)) hx hb hown (hG _ k_259) dX5_record_14 ?_
        exact ag_iret [x0, x1, x2, s0, s01, s02, s03, s1, s11, s12, s13, s2, s21, s22, s23, s3, s31, s32, s33, h, h1, h2, h3, z1, y1, y2, o, o1, o2, o3, t1] hx hb hr rfl hlocks hP hS rfl rfl ⟨(by unfold sr_X5_record; rw [if_neg c_1, if_neg c_5, if_neg c_11]), rfl⟩ dX5_record_16
def gv15_1_X5_next (f : Nat → Int32) (se : Nat → Int32) (kf : Nat → Int32) : Nat → Int32 := sw0_X4_foresee kf f se (sr_X1_head f)
def sr_X5_next (f : Nat → Int32) (se : Nat → Int32) (kf : Nat → Int32) (p1 : Int32) : Int32 := if p1 = 0 then (gv15_1_X5_next f se kf) 0 else if p1 = 1 then (gv15_1_X5_next f se kf) 1 else if p1 = 2 then (gv15_1_X5_next f se kf) 2 else if p1 = 3 then (gv15_1_X5_next f se kf) 3 else if p1 = 4 then (gv15_1_X5_next f se kf) 4 else if p1 = 5 then (gv15_1_X5_next f se kf) 5 else if p1 = 6 then (gv15_1_X5_next f se kf) 6 else (-1000000001)
def sw30_X5_next (f : Nat → Int32) (se : Nat → Int32) (kf : Nat → Int32) : Nat → Int32 := (gv15_1_X5_next f se kf)
abbrev po_X5_next (cI cC cL : ClassId) (x0 h o t1 x1 y1 z1 x2 s0 s01 s02 s03 s1 s11 s12 s13 s2 s21 s22 s23 s3 s31 s32 s33 h1 h2 h3 y2 o1 o2 o3 : Nat) (hf f se to re pf tf ch of ose oto ore kf : Nat → Int32) (p1 : Int32) (sf : Nat → Nat → Int32) (sse : Nat → Nat → Int32) (sto : Nat → Nat → Int32) (sre : Nat → Nat → Int32) : Int32 → va_W → Prop := fun r w' => sr_X5_next f se kf p1 = r ∧ [oX x0 h o t1 x1 y1 z1, oH x1 x2 hf, aL cL x2 (gS s0 s1 s2 s3), oL s0 s01 s02 s03 (sf 0), aI cI s01 3 (sse 0), aI cI s02 7 (sto 0), aI cI s03 60 (sre 0), oL s1 s11 s12 s13 (sf 1), aI cI s11 3 (sse 1), aI cI s12 7 (sto 1), aI cI s13 60 (sre 1), oL s2 s21 s22 s23 (sf 2), aI cI s21 3 (sse 2), aI cI s22 7 (sto 2), aI cI s23 60 (sre 2), oL s3 s31 s32 s33 (sf 3), aI cI s31 3 (sse 3), aI cI s32 7 (sto 3), aI cI s33 60 (sre 3), oL h h1 h2 h3 f, aI cI h1 3 se, aI cI h2 7 to, aI cI h3 60 re, oP z1 pf, oT y1 y2 tf, aC cC y2 60 ch, oL o o1 o2 o3 of, aI cI o1 3 ose, aI cI o2 7 oto, aI cI o3 60 ore, oK t1 (sw30_X5_next f se kf)] = w'
set_option maxHeartbeats 4000000 in
set_option maxRecDepth 100000 in
theorem ct_X5_next (l : Launch) (D : va_G) (cI cC cL : ClassId) (x0 h o t1 x1 y1 z1 x2 s0 s01 s02 s03 s1 s11 s12 s13 s2 s21 s22 s23 s3 s31 s32 s33 h1 h2 h3 y2 o1 o2 o3 : Nat) (hf f se to re pf tf ch of ose oto ore kf : Nat → Int32) (p1 : Int32) (sf : Nat → Nat → Int32) (sse : Nat → Nat → Int32) (sto : Nat → Nat → Int32) (sre : Nat → Nat → Int32) : ag_MI l yX5_next cX5_next 2 .int 3 63 D cI cC cL [.ref x0, .int p1] [oX x0 h o t1 x1 y1 z1, oH x1 x2 hf, aL cL x2 (gS s0 s1 s2 s3), oL s0 s01 s02 s03 (sf 0), aI cI s01 3 (sse 0), aI cI s02 7 (sto 0), aI cI s03 60 (sre 0), oL s1 s11 s12 s13 (sf 1), aI cI s11 3 (sse 1), aI cI s12 7 (sto 1), aI cI s13 60 (sre 1), oL s2 s21 s22 s23 (sf 2), aI cI s21 3 (sse 2), aI cI s22 7 (sto 2), aI cI s23 60 (sre 2), oL s3 s31 s32 s33 (sf 3), aI cI s31 3 (sse 3), aI cI s32 7 (sto 3), aI cI s33 60 (sre 3), oL h h1 h2 h3 f, aI cI h1 3 se, aI cI h2 7 to, aI cI h3 60 re, oP z1 pf, oT y1 y2 tf, aC cC y2 60 ch, oL o o1 o2 o3 of, aI cI o1 3 ose, aI cI o2 7 oto, aI cI o3 60 ore, oK t1 kf] (po_X5_next cI cC cL x0 h o t1 x1 y1 z1 x2 s0 s01 s02 s03 s1 s11 s12 s13 s2 s21 s22 s23 s3 s31 s32 s33 h1 h2 h3 y2 o1 o2 o3 hf f se to re pf tf ch of ose oto ore kf p1 sf sse sto sre) := by
  refine ag_MI.of (plainFor_of_name (by decide)) (Nat.le_of_ble_eq_true rfl) ?_
  intro p e s m below meth c hx hb hr hlocks hml hown hmn hG hK A hN hA H locs hP hD hS ls hl
  have hl : lv_has ls 2 [(0, .ref x0), (1, .int p1)] := hl
  refine lv_aload_n hx hb dX5_next_0 rfl (lv_at hl 0 rfl) ?_
  refine ag_getX5 (v := .ref t1) hx hb hG hown hK hP 0 2 rfl (by decide) k_219 rfl dX5_next_1 ?_
  refine lv_aload_n hx hb dX5_next_4 rfl (lv_at hl 0 rfl) ?_
  refine ag_getX5 (v := .ref h) hx hb hG hown hK hP 0 0 rfl (by decide) k_217 rfl dX5_next_5 ?_
  refine lv_aload_n hx hb dX5_next_8 rfl (lv_at hl 0 rfl) ?_
  refine ag_getX5 (v := .ref h) hx hb hG hown hK hP 0 0 rfl (by decide) k_217 rfl dX5_next_9 ?_
  refine ag_callVi (As := []) (rest := [.ref h, .ref t1]) hx hb hml hown hG hK hN hA hP hD hS hl (ct_X1_head l D cI cC cL h h1 h2 h3 f se to re) fX1_head k_394 (ag_cut_1 [oX x0 h o t1 x1 y1 z1, oH x1 x2 hf, aL cL x2 (gS s0 s1 s2 s3), oL s0 s01 s02 s03 (sf 0), aI cI s01 3 (sse 0), aI cI s02 7 (sto 0), aI cI s03 60 (sre 0), oL s1 s11 s12 s13 (sf 1), aI cI s11 3 (sse 1), aI cI s12 7 (sto 1), aI cI s13 60 (sre 1), oL s2 s21 s22 s23 (sf 2), aI cI s21 3 (sse 2), aI cI s22 7 (sto 2), aI cI s23 60 (sre 2), oL s3 s31 s32 s33 (sf 3), aI cI s31 3 (sse 3), aI cI s32 7 (sto 3), aI cI s33 60 (sre 3)] [oP z1 pf, oT y1 y2 tf, aC cC y2 60 ch, oL o o1 o2 o3 of, aI cI o1 3 ose, aI cI o2 7 oto, aI cI o3 60 ore, oK t1 kf] rfl) (q0 := 19) rfl rfl rfl rfl (Nat.le_of_ble_eq_true rfl) ⟨Nat.le_of_ble_eq_true rfl, Nat.le_of_ble_eq_true rfl⟩ ⟨Nat.zero_le _, Nat.zero_le _⟩ dX5_next_12 (fun r w1 H locs hw hP hD hS => ?_)
  obtain ⟨rfl, hw⟩ := hw
  subst hw
  have hP : va_P D vwCl [oX x0 h o t1 x1 y1 z1, oH x1 x2 hf, aL cL x2 (gS s0 s1 s2 s3), oL s0 s01 s02 s03 (sf 0), aI cI s01 3 (sse 0), aI cI s02 7 (sto 0), aI cI s03 60 (sre 0), oL s1 s11 s12 s13 (sf 1), aI cI s11 3 (sse 1), aI cI s12 7 (sto 1), aI cI s13 60 (sre 1), oL s2 s21 s22 s23 (sf 2), aI cI s21 3 (sse 2), aI cI s22 7 (sto 2), aI cI s23 60 (sre 2), oL s3 s31 s32 s33 (sf 3), aI cI s31 3 (sse 3), aI cI s32 7 (sto 3), aI cI s33 60 (sre 3), oL h h1 h2 h3 f, aI cI h1 3 se, aI cI h2 7 to, aI cI h3 60 re, oP z1 pf, oT y1 y2 tf, aC cC y2 60 ch, oL o o1 o2 o3 of, aI cI o1 3 ose, aI cI o2 7 oto, aI cI o3 60 ore, oK t1 kf] H := hP
  have hD : va_D A [oX x0 h o t1 x1 y1 z1, oH x1 x2 hf, aL cL x2 (gS s0 s1 s2 s3), oL s0 s01 s02 s03 (sf 0), aI cI s01 3 (sse 0), aI cI s02 7 (sto 0), aI cI s03 60 (sre 0), oL s1 s11 s12 s13 (sf 1), aI cI s11 3 (sse 1), aI cI s12 7 (sto 1), aI cI s13 60 (sre 1), oL s2 s21 s22 s23 (sf 2), aI cI s21 3 (sse 2), aI cI s22 7 (sto 2), aI cI s23 60 (sre 2), oL s3 s31 s32 s33 (sf 3), aI cI s31 3 (sse 3), aI cI s32 7 (sto 3), aI cI s33 60 (sre 3), oL h h1 h2 h3 f, aI cI h1 3 se, aI cI h2 7 to, aI cI h3 60 re, oP z1 pf, oT y1 y2 tf, aC cC y2 60 ch, oL o o1 o2 o3 of, aI cI o1 3 ose, aI cI o2 7 oto, aI cI o3 60 ore, oK t1 kf] := hD
  refine ag_callVv (As := [.ref h, .int (sr_X1_head f)]) (rest := []) hx hb hml hown hG hK hN hA hP hD hS hl (ct_X4_foresee l D cI cC cL t1 h h1 h2 h3 kf f se to re (sr_X1_head f)) fX4_foresee k_418 (ag_cut_2s 1 [oX x0 h o t1 x1 y1 z1, oH x1 x2 hf, aL cL x2 (gS s0 s1 s2 s3), oL s0 s01 s02 s03 (sf 0), aI cI s01 3 (sse 0), aI cI s02 7 (sto 0), aI cI s03 60 (sre 0), oL s1 s11 s12 s13 (sf 1), aI cI s11 3 (sse 1), aI cI s12 7 (sto 1), aI cI s13 60 (sre 1), oL s2 s21 s22 s23 (sf 2), aI cI s21 3 (sse 2), aI cI s22 7 (sto 2), aI cI s23 60 (sre 2), oL s3 s31 s32 s33 (sf 3), aI cI s31 3 (sse 3), aI cI s32 7 (sto 3), aI cI s33 60 (sre 3)] [oK t1 kf] [oP z1 pf, oT y1 y2 tf, aC cC y2 60 ch, oL o o1 o2 o3 of, aI cI o1 3 ose, aI cI o2 7 oto, aI cI o3 60 ore] [oL h h1 h2 h3 f, aI cI h1 3 se, aI cI h2 7 to, aI cI h3 60 re] [] rfl rfl rfl) (q0 := 30) rfl rfl rfl rfl (Nat.le_of_ble_eq_true rfl) ⟨Nat.le_of_ble_eq_true rfl, Nat.le_of_ble_eq_true rfl⟩ ⟨Nat.zero_le _, Nat.zero_le _⟩ dX5_next_15 (fun w1 H locs hw hP hD hS => ?_)
  have hw : _ = w1 := hw
  generalize eg15_1 : sw0_X4_foresee kf f se (sr_X1_head f) = g15_1 at hw
  replace eg15_1 : gv15_1_X5_next f se kf = g15_1 := (by rw [← eg15_1]; rfl)
  subst hw
  have hP : va_P D vwCl [oX x0 h o t1 x1 y1 z1, oH x1 x2 hf, aL cL x2 (gS s0 s1 s2 s3), oL s0 s01 s02 s03 (sf 0), aI cI s01 3 (sse 0), aI cI s02 7 (sto 0), aI cI s03 60 (sre 0), oL s1 s11 s12 s13 (sf 1), aI cI s11 3 (sse 1), aI cI s12 7 (sto 1), aI cI s13 60 (sre 1), oL s2 s21 s22 s23 (sf 2), aI cI s21 3 (sse 2), aI cI s22 7 (sto 2), aI cI s23 60 (sre 2), oL s3 s31 s32 s33 (sf 3), aI cI s31 3 (sse 3), aI cI s32 7 (sto 3), aI cI s33 60 (sre 3), oL h h1 h2 h3 f, aI cI h1 3 se, aI cI h2 7 to, aI cI h3 60 re, oP z1 pf, oT y1 y2 tf, aC cC y2 60 ch, oL o o1 o2 o3 of, aI cI o1 3 ose, aI cI o2 7 oto, aI cI o3 60 ore, oK t1 g15_1] H := hP
  have hD : va_D A [oX x0 h o t1 x1 y1 z1, oH x1 x2 hf, aL cL x2 (gS s0 s1 s2 s3), oL s0 s01 s02 s03 (sf 0), aI cI s01 3 (sse 0), aI cI s02 7 (sto 0), aI cI s03 60 (sre 0), oL s1 s11 s12 s13 (sf 1), aI cI s11 3 (sse 1), aI cI s12 7 (sto 1), aI cI s13 60 (sre 1), oL s2 s21 s22 s23 (sf 2), aI cI s21 3 (sse 2), aI cI s22 7 (sto 2), aI cI s23 60 (sre 2), oL s3 s31 s32 s33 (sf 3), aI cI s31 3 (sse 3), aI cI s32 7 (sto 3), aI cI s33 60 (sre 3), oL h h1 h2 h3 f, aI cI h1 3 se, aI cI h2 7 to, aI cI h3 60 re, oP z1 pf, oT y1 y2 tf, aC cC y2 60 ch, oL o o1 o2 o3 of, aI cI o1 3 ose, aI cI o2 7 oto, aI cI o3 60 ore, oK t1 g15_1] := hD
  refine lv_iload_n hx hb dX5_next_18 rfl (lv_at hl 1 rfl) ?_
  by_cases c_19_0 : p1 = 0
  · refine lv_tableIn (off := 41) (tgt := 60) hx hb dX5_next_19 (by rw [c_19_0]; decide) (by rw [c_19_0]; decide) (by rw [c_19_0]; rfl) (by decide) ?_
    refine lv_aload_n hx hb dX5_next_60 rfl (lv_at hl 0 rfl) ?_
    refine ag_getX5 (v := .ref t1) hx hb hG hown hK hP 0 2 rfl (by decide) k_219 rfl dX5_next_61 ?_
    refine ag_getX4 (v := .int (g15_1 0)) hx hb hG hown hK hP 30 0 rfl (by decide) k_110 rfl dX5_next_64 ?_
    revert hP; revert hD; revert hS; revert hl
    subst eg15_1
    intro hl hS hD hP
    exact ag_iret [x0, x1, x2, s0, s01, s02, s03, s1, s11, s12, s13, s2, s21, s22, s23, s3, s31, s32, s33, h, h1, h2, h3, z1, y1, y2, o, o1, o2, o3, t1] hx hb hr rfl hlocks hP hS rfl rfl ⟨(by unfold sr_X5_next; rw [if_pos c_19_0]), (by show _ = _; rw [show sw30_X5_next f se kf = (gv15_1_X5_next f se kf) from rfl])⟩ dX5_next_67
  · by_cases c_19_1 : p1 = 1
    · refine lv_tableIn (off := 49) (tgt := 68) hx hb dX5_next_19 (by rw [c_19_1]; decide) (by rw [c_19_1]; decide) (by rw [c_19_1]; rfl) (by decide) ?_
      refine lv_aload_n hx hb dX5_next_68 rfl (lv_at hl 0 rfl) ?_
      refine ag_getX5 (v := .ref t1) hx hb hG hown hK hP 0 2 rfl (by decide) k_219 rfl dX5_next_69 ?_
      refine ag_getX4 (v := .int (g15_1 1)) hx hb hG hown hK hP 30 1 rfl (by decide) k_112 rfl dX5_next_72 ?_
      revert hP; revert hD; revert hS; revert hl
      subst eg15_1
      intro hl hS hD hP
      exact ag_iret [x0, x1, x2, s0, s01, s02, s03, s1, s11, s12, s13, s2, s21, s22, s23, s3, s31, s32, s33, h, h1, h2, h3, z1, y1, y2, o, o1, o2, o3, t1] hx hb hr rfl hlocks hP hS rfl rfl ⟨(by unfold sr_X5_next; rw [if_neg c_19_0, if_pos c_19_1]), (by show _ = _; rw [show sw30_X5_next f se kf = (gv15_1_X5_next f se kf) from rfl])⟩ dX5_next_75
    · by_cases c_19_2 : p1 = 2
      · refine lv_tableIn (off := 57) (tgt := 76) hx hb dX5_next_19 (by rw [c_19_2]; decide) (by rw [c_19_2]; decide) (by rw [c_19_2]; rfl) (by decide) ?_
        refine lv_aload_n hx hb dX5_next_76 rfl (lv_at hl 0 rfl) ?_
        refine ag_getX5 (v := .ref t1) hx hb hG hown hK hP 0 2 rfl (by decide) k_219 rfl dX5_next_77 ?_
        refine ag_getX4 (v := .int (g15_1 2)) hx hb hG hown hK hP 30 2 rfl (by decide) k_114 rfl dX5_next_80 ?_
        revert hP; revert hD; revert hS; revert hl
        subst eg15_1
        intro hl hS hD hP
        exact ag_iret [x0, x1, x2, s0, s01, s02, s03, s1, s11, s12, s13, s2, s21, s22, s23, s3, s31, s32, s33, h, h1, h2, h3, z1, y1, y2, o, o1, o2, o3, t1] hx hb hr rfl hlocks hP hS rfl rfl ⟨(by unfold sr_X5_next; rw [if_neg c_19_0, if_neg c_19_1, if_pos c_19_2]), (by show _ = _; rw [show sw30_X5_next f se kf = (gv15_1_X5_next f se kf) from rfl])⟩ dX5_next_83
      · by_cases c_19_3 : p1 = 3
        · refine lv_tableIn (off := 65) (tgt := 84) hx hb dX5_next_19 (by rw [c_19_3]; decide) (by rw [c_19_3]; decide) (by rw [c_19_3]; rfl) (by decide) ?_
          refine lv_aload_n hx hb dX5_next_84 rfl (lv_at hl 0 rfl) ?_
          refine ag_getX5 (v := .ref t1) hx hb hG hown hK hP 0 2 rfl (by decide) k_219 rfl dX5_next_85 ?_
          refine ag_getX4 (v := .int (g15_1 3)) hx hb hG hown hK hP 30 3 rfl (by decide) k_116 rfl dX5_next_88 ?_
          revert hP; revert hD; revert hS; revert hl
          subst eg15_1
          intro hl hS hD hP
          exact ag_iret [x0, x1, x2, s0, s01, s02, s03, s1, s11, s12, s13, s2, s21, s22, s23, s3, s31, s32, s33, h, h1, h2, h3, z1, y1, y2, o, o1, o2, o3, t1] hx hb hr rfl hlocks hP hS rfl rfl ⟨(by unfold sr_X5_next; rw [if_neg c_19_0, if_neg c_19_1, if_neg c_19_2, if_pos c_19_3]), (by show _ = _; rw [show sw30_X5_next f se kf = (gv15_1_X5_next f se kf) from rfl])⟩ dX5_next_91
        · by_cases c_19_4 : p1 = 4
          · refine lv_tableIn (off := 73) (tgt := 92) hx hb dX5_next_19 (by rw [c_19_4]; decide) (by rw [c_19_4]; decide) (by rw [c_19_4]; rfl) (by decide) ?_
            refine lv_aload_n hx hb dX5_next_92 rfl (lv_at hl 0 rfl) ?_
            refine ag_getX5 (v := .ref t1) hx hb hG hown hK hP 0 2 rfl (by decide) k_219 rfl dX5_next_93 ?_
            refine ag_getX4 (v := .int (g15_1 4)) hx hb hG hown hK hP 30 4 rfl (by decide) k_119 rfl dX5_next_96 ?_
            revert hP; revert hD; revert hS; revert hl
            subst eg15_1
            intro hl hS hD hP
            exact ag_iret [x0, x1, x2, s0, s01, s02, s03, s1, s11, s12, s13, s2, s21, s22, s23, s3, s31, s32, s33, h, h1, h2, h3, z1, y1, y2, o, o1, o2, o3, t1] hx hb hr rfl hlocks hP hS rfl rfl ⟨(by unfold sr_X5_next; rw [if_neg c_19_0, if_neg c_19_1, if_neg c_19_2, if_neg c_19_3, if_pos c_19_4]), (by show _ = _; rw [show sw30_X5_next f se kf = (gv15_1_X5_next f se kf) from rfl])⟩ dX5_next_99
          · by_cases c_19_5 : p1 = 5
            · refine lv_tableIn (off := 81) (tgt := 100) hx hb dX5_next_19 (by rw [c_19_5]; decide) (by rw [c_19_5]; decide) (by rw [c_19_5]; rfl) (by decide) ?_
              refine lv_aload_n hx hb dX5_next_100 rfl (lv_at hl 0 rfl) ?_
              refine ag_getX5 (v := .ref t1) hx hb hG hown hK hP 0 2 rfl (by decide) k_219 rfl dX5_next_101 ?_
              refine ag_getX4 (v := .int (g15_1 5)) hx hb hG hown hK hP 30 5 rfl (by decide) k_122 rfl dX5_next_104 ?_
              revert hP; revert hD; revert hS; revert hl
              subst eg15_1
              intro hl hS hD hP
              exact ag_iret [x0, x1, x2, s0, s01, s02, s03, s1, s11, s12, s13, s2, s21, s22, s23, s3, s31, s32, s33, h, h1, h2, h3, z1, y1, y2, o, o1, o2, o3, t1] hx hb hr rfl hlocks hP hS rfl rfl ⟨(by unfold sr_X5_next; rw [if_neg c_19_0, if_neg c_19_1, if_neg c_19_2, if_neg c_19_3, if_neg c_19_4, if_pos c_19_5]), (by show _ = _; rw [show sw30_X5_next f se kf = (gv15_1_X5_next f se kf) from rfl])⟩ dX5_next_107
            · by_cases c_19_6 : p1 = 6
              · refine lv_tableIn (off := 89) (tgt := 108) hx hb dX5_next_19 (by rw [c_19_6]; decide) (by rw [c_19_6]; decide) (by rw [c_19_6]; rfl) (by decide) ?_
                refine lv_aload_n hx hb dX5_next_108 rfl (lv_at hl 0 rfl) ?_
                refine ag_getX5 (v := .ref t1) hx hb hG hown hK hP 0 2 rfl (by decide) k_219 rfl dX5_next_109 ?_
                refine ag_getX4 (v := .int (g15_1 6)) hx hb hG hown hK hP 30 6 rfl (by decide) k_125 rfl dX5_next_112 ?_
                revert hP; revert hD; revert hS; revert hl
                subst eg15_1
                intro hl hS hD hP
                exact ag_iret [x0, x1, x2, s0, s01, s02, s03, s1, s11, s12, s13, s2, s21, s22, s23, s3, s31, s32, s33, h, h1, h2, h3, z1, y1, y2, o, o1, o2, o3, t1] hx hb hr rfl hlocks hP hS rfl rfl ⟨(by unfold sr_X5_next; rw [if_neg c_19_0, if_neg c_19_1, if_neg c_19_2, if_neg c_19_3, if_neg c_19_4, if_neg c_19_5, if_pos c_19_6]), (by show _ = _; rw [show sw30_X5_next f se kf = (gv15_1_X5_next f se kf) from rfl])⟩ dX5_next_115
              · refine lv_tableOut (tgt := 116) hx hb dX5_next_19 (by have h0 := lv_neT c_19_0 (a := 0) rfl; have h1 := lv_neT c_19_1 (a := 1) rfl; have h2 := lv_neT c_19_2 (a := 2) rfl; have h3 := lv_neT c_19_3 (a := 3) rfl; have h4 := lv_neT c_19_4 (a := 4) rfl; have h5 := lv_neT c_19_5 (a := 5) rfl; have h6 := lv_neT c_19_6 (a := 6) rfl; omega) (by decide) ?_
                refine lv_ldc (v := (-1000000001)) hx hb hown (hG _ k_259) dX5_next_116 ?_
                revert hP; revert hD; revert hS; revert hl
                subst eg15_1
                intro hl hS hD hP
                exact ag_iret [x0, x1, x2, s0, s01, s02, s03, s1, s11, s12, s13, s2, s21, s22, s23, s3, s31, s32, s33, h, h1, h2, h3, z1, y1, y2, o, o1, o2, o3, t1] hx hb hr rfl hlocks hP hS rfl rfl ⟨(by unfold sr_X5_next; rw [if_neg c_19_0, if_neg c_19_1, if_neg c_19_2, if_neg c_19_3, if_neg c_19_4, if_neg c_19_5, if_neg c_19_6]), (by show _ = _; rw [show sw30_X5_next f se kf = (gv15_1_X5_next f se kf) from rfl])⟩ dX5_next_118
def gv43_1_X5_would (f : Nat → Int32) (se : Nat → Int32) (to : Nat → Int32) (re : Nat → Int32) (kf : Nat → Int32) (p1 : Int32) : Nat → Int32 := (lp se p1.toNatClampNeg (f, to, re, kf)).1
def gv43_2_X5_would (f : Nat → Int32) (se : Nat → Int32) (to : Nat → Int32) (re : Nat → Int32) (kf : Nat → Int32) (p1 : Int32) : Nat → Int32 := (lp se p1.toNatClampNeg (f, to, re, kf)).2.1
def gv43_3_X5_would (f : Nat → Int32) (se : Nat → Int32) (to : Nat → Int32) (re : Nat → Int32) (kf : Nat → Int32) (p1 : Int32) : Nat → Int32 := (lp se p1.toNatClampNeg (f, to, re, kf)).2.2.1
def gv43_4_X5_would (f : Nat → Int32) (se : Nat → Int32) (to : Nat → Int32) (re : Nat → Int32) (kf : Nat → Int32) (p1 : Int32) : Nat → Int32 := (lp se p1.toNatClampNeg (f, to, re, kf)).2.2.2
def sr_X5_would (f : Nat → Int32) (se : Nat → Int32) (to : Nat → Int32) (re : Nat → Int32) (kf : Nat → Int32) (p1 : Int32) (p2 : Int32) : Int32 := if p1 < 0 then (-1000000001) else if 300 < p1 then (-1000000001) else if p2 < 0 then (-1000000001) else if p2 ≤ 3 then if p2 = 0 then sr_X1_level (gv43_1_X5_would f se to re kf p1) else if p2 = 1 then ((gv43_2_X5_would f se to re kf p1) 0) - (to 0) else if p2 = 2 then ((gv43_2_X5_would f se to re kf p1) 1) - (to 1) else (gv43_1_X5_would f se to re kf p1) 2 else (-1000000001)
def sw26_X5_would (f : Nat → Int32) (se : Nat → Int32) (to : Nat → Int32) (re : Nat → Int32) (of : Nat → Int32) (kf : Nat → Int32) (p1 : Int32) (p2 : Int32) : Nat → Int32 := if p1 < 0 then of else if 300 < p1 then of else if p2 < 0 then of else if p2 ≤ 3 then (gv43_1_X5_would f se to re kf p1) else of
def sw27_X5_would (se : Nat → Int32) (ose : Nat → Int32) (p1 : Int32) (p2 : Int32) : Nat → Int32 := if p1 < 0 then ose else if 300 < p1 then ose else if p2 < 0 then ose else if p2 ≤ 3 then se else ose
def sw28_X5_would (f : Nat → Int32) (se : Nat → Int32) (to : Nat → Int32) (re : Nat → Int32) (oto : Nat → Int32) (kf : Nat → Int32) (p1 : Int32) (p2 : Int32) : Nat → Int32 := if p1 < 0 then oto else if 300 < p1 then oto else if p2 < 0 then oto else if p2 ≤ 3 then (gv43_2_X5_would f se to re kf p1) else oto
def sw29_X5_would (f : Nat → Int32) (se : Nat → Int32) (to : Nat → Int32) (re : Nat → Int32) (ore : Nat → Int32) (kf : Nat → Int32) (p1 : Int32) (p2 : Int32) : Nat → Int32 := if p1 < 0 then ore else if 300 < p1 then ore else if p2 < 0 then ore else if p2 ≤ 3 then (gv43_3_X5_would f se to re kf p1) else ore
def sw30_X5_would (f : Nat → Int32) (se : Nat → Int32) (to : Nat → Int32) (re : Nat → Int32) (kf : Nat → Int32) (p1 : Int32) (p2 : Int32) : Nat → Int32 := if p1 < 0 then kf else if 300 < p1 then kf else if p2 < 0 then kf else if p2 ≤ 3 then (gv43_4_X5_would f se to re kf p1) else kf
abbrev po_X5_would (cI cC cL : ClassId) (x0 h o t1 x1 y1 z1 x2 s0 s01 s02 s03 s1 s11 s12 s13 s2 s21 s22 s23 s3 s31 s32 s33 h1 h2 h3 y2 o1 o2 o3 : Nat) (hf f se to re pf tf ch of ose oto ore kf : Nat → Int32) (p1 : Int32) (p2 : Int32) (sf : Nat → Nat → Int32) (sse : Nat → Nat → Int32) (sto : Nat → Nat → Int32) (sre : Nat → Nat → Int32) : Int32 → va_W → Prop := fun r w' => sr_X5_would f se to re kf p1 p2 = r ∧ [oX x0 h o t1 x1 y1 z1, oH x1 x2 hf, aL cL x2 (gS s0 s1 s2 s3), oL s0 s01 s02 s03 (sf 0), aI cI s01 3 (sse 0), aI cI s02 7 (sto 0), aI cI s03 60 (sre 0), oL s1 s11 s12 s13 (sf 1), aI cI s11 3 (sse 1), aI cI s12 7 (sto 1), aI cI s13 60 (sre 1), oL s2 s21 s22 s23 (sf 2), aI cI s21 3 (sse 2), aI cI s22 7 (sto 2), aI cI s23 60 (sre 2), oL s3 s31 s32 s33 (sf 3), aI cI s31 3 (sse 3), aI cI s32 7 (sto 3), aI cI s33 60 (sre 3), oL h h1 h2 h3 f, aI cI h1 3 se, aI cI h2 7 to, aI cI h3 60 re, oP z1 pf, oT y1 y2 tf, aC cC y2 60 ch, oL o o1 o2 o3 (sw26_X5_would f se to re of kf p1 p2), aI cI o1 3 (sw27_X5_would se ose p1 p2), aI cI o2 7 (sw28_X5_would f se to re oto kf p1 p2), aI cI o3 60 (sw29_X5_would f se to re ore kf p1 p2), oK t1 (sw30_X5_would f se to re kf p1 p2)] = w'
set_option maxHeartbeats 4000000 in
set_option maxRecDepth 100000 in
theorem ct_X5_would (l : Launch) (D : va_G) (cI cC cL : ClassId) (x0 h o t1 x1 y1 z1 x2 s0 s01 s02 s03 s1 s11 s12 s13 s2 s21 s22 s23 s3 s31 s32 s33 h1 h2 h3 y2 o1 o2 o3 : Nat) (hf f se to re pf tf ch of ose oto ore kf : Nat → Int32) (p1 : Int32) (p2 : Int32) (sf : Nat → Nat → Int32) (sse : Nat → Nat → Int32) (sto : Nat → Nat → Int32) (sre : Nat → Nat → Int32) : ag_MI l yX5_would cX5_would 3 .int 4 88 D cI cC cL [.ref x0, .int p1, .int p2] [oX x0 h o t1 x1 y1 z1, oH x1 x2 hf, aL cL x2 (gS s0 s1 s2 s3), oL s0 s01 s02 s03 (sf 0), aI cI s01 3 (sse 0), aI cI s02 7 (sto 0), aI cI s03 60 (sre 0), oL s1 s11 s12 s13 (sf 1), aI cI s11 3 (sse 1), aI cI s12 7 (sto 1), aI cI s13 60 (sre 1), oL s2 s21 s22 s23 (sf 2), aI cI s21 3 (sse 2), aI cI s22 7 (sto 2), aI cI s23 60 (sre 2), oL s3 s31 s32 s33 (sf 3), aI cI s31 3 (sse 3), aI cI s32 7 (sto 3), aI cI s33 60 (sre 3), oL h h1 h2 h3 f, aI cI h1 3 se, aI cI h2 7 to, aI cI h3 60 re, oP z1 pf, oT y1 y2 tf, aC cC y2 60 ch, oL o o1 o2 o3 of, aI cI o1 3 ose, aI cI o2 7 oto, aI cI o3 60 ore, oK t1 kf] (po_X5_would cI cC cL x0 h o t1 x1 y1 z1 x2 s0 s01 s02 s03 s1 s11 s12 s13 s2 s21 s22 s23 s3 s31 s32 s33 h1 h2 h3 y2 o1 o2 o3 hf f se to re pf tf ch of ose oto ore kf p1 p2 sf sse sto sre) := by
  refine ag_MI.of (plainFor_of_name (by decide)) (Nat.le_of_ble_eq_true rfl) ?_
  intro p e s m below meth c hx hb hr hlocks hml hown hmn hG hK A hN hA H locs hP hD hS ls hl
  have hl : lv_has ls 3 [(0, .ref x0), (1, .int p1), (2, .int p2)] := hl
  refine lv_iload_n hx hb dX5_would_0 rfl (lv_at hl 1 rfl) ?_
  refine lv_if_lt (tgt := 20) hx hb dX5_would_1 (by decide) (fun c_1 => ?_) (fun c_1 => ?_)
  · refine lv_ldc (v := (-1000000001)) hx hb hown (hG _ k_259) dX5_would_20 ?_
    exact ag_iret [x0, x1, x2, s0, s01, s02, s03, s1, s11, s12, s13, s2, s21, s22, s23, s3, s31, s32, s33, h, h1, h2, h3, z1, y1, y2, o, o1, o2, o3, t1] hx hb hr rfl hlocks hP hS rfl rfl ⟨(by unfold sr_X5_would; rw [if_pos c_1]), (by show _ = _; rw [show sw26_X5_would f se to re of kf p1 p2 = of from (by unfold sw26_X5_would; rw [if_pos c_1]), show sw27_X5_would se ose p1 p2 = ose from (by unfold sw27_X5_would; rw [if_pos c_1]), show sw28_X5_would f se to re oto kf p1 p2 = oto from (by unfold sw28_X5_would; rw [if_pos c_1]), show sw29_X5_would f se to re ore kf p1 p2 = ore from (by unfold sw29_X5_would; rw [if_pos c_1]), show sw30_X5_would f se to re kf p1 p2 = kf from (by unfold sw30_X5_would; rw [if_pos c_1])])⟩ dX5_would_22
  · refine lv_iload_n hx hb dX5_would_4 rfl (lv_at hl 1 rfl) ?_
    refine lv_sipush (v := 300) hx hb dX5_would_5 (by decide) ?_
    refine lv_icmp_gt (tgt := 20) hx hb dX5_would_8 (by decide) (fun c_8 => ?_) (fun c_8 => ?_)
    · refine lv_ldc (v := (-1000000001)) hx hb hown (hG _ k_259) dX5_would_20 ?_
      exact ag_iret [x0, x1, x2, s0, s01, s02, s03, s1, s11, s12, s13, s2, s21, s22, s23, s3, s31, s32, s33, h, h1, h2, h3, z1, y1, y2, o, o1, o2, o3, t1] hx hb hr rfl hlocks hP hS rfl rfl ⟨(by unfold sr_X5_would; rw [if_neg c_1, if_pos c_8]), (by show _ = _; rw [show sw26_X5_would f se to re of kf p1 p2 = of from (by unfold sw26_X5_would; rw [if_neg c_1, if_pos c_8]), show sw27_X5_would se ose p1 p2 = ose from (by unfold sw27_X5_would; rw [if_neg c_1, if_pos c_8]), show sw28_X5_would f se to re oto kf p1 p2 = oto from (by unfold sw28_X5_would; rw [if_neg c_1, if_pos c_8]), show sw29_X5_would f se to re ore kf p1 p2 = ore from (by unfold sw29_X5_would; rw [if_neg c_1, if_pos c_8]), show sw30_X5_would f se to re kf p1 p2 = kf from (by unfold sw30_X5_would; rw [if_neg c_1, if_pos c_8])])⟩ dX5_would_22
    · refine lv_iload_n hx hb dX5_would_11 rfl (lv_at hl 2 rfl) ?_
      refine lv_if_lt (tgt := 20) hx hb dX5_would_12 (by decide) (fun c_12 => ?_) (fun c_12 => ?_)
      · refine lv_ldc (v := (-1000000001)) hx hb hown (hG _ k_259) dX5_would_20 ?_
        exact ag_iret [x0, x1, x2, s0, s01, s02, s03, s1, s11, s12, s13, s2, s21, s22, s23, s3, s31, s32, s33, h, h1, h2, h3, z1, y1, y2, o, o1, o2, o3, t1] hx hb hr rfl hlocks hP hS rfl rfl ⟨(by unfold sr_X5_would; rw [if_neg c_1, if_neg c_8, if_pos c_12]), (by show _ = _; rw [show sw26_X5_would f se to re of kf p1 p2 = of from (by unfold sw26_X5_would; rw [if_neg c_1, if_neg c_8, if_pos c_12]), show sw27_X5_would se ose p1 p2 = ose from (by unfold sw27_X5_would; rw [if_neg c_1, if_neg c_8, if_pos c_12]), show sw28_X5_would f se to re oto kf p1 p2 = oto from (by unfold sw28_X5_would; rw [if_neg c_1, if_neg c_8, if_pos c_12]), show sw29_X5_would f se to re ore kf p1 p2 = ore from (by unfold sw29_X5_would; rw [if_neg c_1, if_neg c_8, if_pos c_12]), show sw30_X5_would f se to re kf p1 p2 = kf from (by unfold sw30_X5_would; rw [if_neg c_1, if_neg c_8, if_pos c_12])])⟩ dX5_would_22
      · refine lv_iload_n hx hb dX5_would_15 rfl (lv_at hl 2 rfl) ?_
        refine lv_iconst (v := 3) hx hb dX5_would_16 (by decide) ?_
        refine lv_icmp_le (tgt := 23) hx hb dX5_would_17 (by decide) (fun c_17 => ?_) (fun c_17 => ?_)
        · refine lv_aload_n hx hb dX5_would_23 rfl (lv_at hl 0 rfl) ?_
          refine ag_getX5 (v := .ref o) hx hb hG hown hK hP 0 1 rfl (by decide) k_218 rfl dX5_would_24 ?_
          refine lv_aload_n hx hb dX5_would_27 rfl (lv_at hl 0 rfl) ?_
          refine ag_getX5 (v := .ref h) hx hb hG hown hK hP 0 0 rfl (by decide) k_217 rfl dX5_would_28 ?_
          refine ag_callVv (As := [.ref h]) (rest := []) hx hb hml hown hG hK hN hA hP hD hS hl (ct_X1_copyFrom l D cI cC cL o h o1 o2 o3 h1 h2 h3 of ose oto ore f se to re) fX1_copyFrom k_240 (ag_cut_2s 4 [oX x0 h o t1 x1 y1 z1, oH x1 x2 hf, aL cL x2 (gS s0 s1 s2 s3), oL s0 s01 s02 s03 (sf 0), aI cI s01 3 (sse 0), aI cI s02 7 (sto 0), aI cI s03 60 (sre 0), oL s1 s11 s12 s13 (sf 1), aI cI s11 3 (sse 1), aI cI s12 7 (sto 1), aI cI s13 60 (sre 1), oL s2 s21 s22 s23 (sf 2), aI cI s21 3 (sse 2), aI cI s22 7 (sto 2), aI cI s23 60 (sre 2), oL s3 s31 s32 s33 (sf 3), aI cI s31 3 (sse 3), aI cI s32 7 (sto 3), aI cI s33 60 (sre 3)] [oL o o1 o2 o3 of, aI cI o1 3 ose, aI cI o2 7 oto, aI cI o3 60 ore] [oP z1 pf, oT y1 y2 tf, aC cC y2 60 ch] [oL h h1 h2 h3 f, aI cI h1 3 se, aI cI h2 7 to, aI cI h3 60 re] [oK t1 kf] rfl rfl rfl) (q0 := 26) rfl rfl rfl rfl (Nat.le_of_ble_eq_true rfl) ⟨Nat.le_of_ble_eq_true rfl, Nat.le_of_ble_eq_true rfl⟩ ⟨Nat.zero_le _, Nat.zero_le _⟩ dX5_would_31 (fun w1 H locs hw hP hD hS => ?_)
          have hw : _ = w1 := hw
          subst hw
          have hP : va_P D vwCl [oX x0 h o t1 x1 y1 z1, oH x1 x2 hf, aL cL x2 (gS s0 s1 s2 s3), oL s0 s01 s02 s03 (sf 0), aI cI s01 3 (sse 0), aI cI s02 7 (sto 0), aI cI s03 60 (sre 0), oL s1 s11 s12 s13 (sf 1), aI cI s11 3 (sse 1), aI cI s12 7 (sto 1), aI cI s13 60 (sre 1), oL s2 s21 s22 s23 (sf 2), aI cI s21 3 (sse 2), aI cI s22 7 (sto 2), aI cI s23 60 (sre 2), oL s3 s31 s32 s33 (sf 3), aI cI s31 3 (sse 3), aI cI s32 7 (sto 3), aI cI s33 60 (sre 3), oL h h1 h2 h3 f, aI cI h1 3 se, aI cI h2 7 to, aI cI h3 60 re, oP z1 pf, oT y1 y2 tf, aC cC y2 60 ch, oL o o1 o2 o3 f, aI cI o1 3 se, aI cI o2 7 to, aI cI o3 60 re, oK t1 kf] H := hP
          have hD : va_D A [oX x0 h o t1 x1 y1 z1, oH x1 x2 hf, aL cL x2 (gS s0 s1 s2 s3), oL s0 s01 s02 s03 (sf 0), aI cI s01 3 (sse 0), aI cI s02 7 (sto 0), aI cI s03 60 (sre 0), oL s1 s11 s12 s13 (sf 1), aI cI s11 3 (sse 1), aI cI s12 7 (sto 1), aI cI s13 60 (sre 1), oL s2 s21 s22 s23 (sf 2), aI cI s21 3 (sse 2), aI cI s22 7 (sto 2), aI cI s23 60 (sre 2), oL s3 s31 s32 s33 (sf 3), aI cI s31 3 (sse 3), aI cI s32 7 (sto 3), aI cI s33 60 (sre 3), oL h h1 h2 h3 f, aI cI h1 3 se, aI cI h2 7 to, aI cI h3 60 re, oP z1 pf, oT y1 y2 tf, aC cC y2 60 ch, oL o o1 o2 o3 f, aI cI o1 3 se, aI cI o2 7 to, aI cI o3 60 re, oK t1 kf] := hD
          refine lv_aload_n hx hb dX5_would_34 rfl (lv_at hl 0 rfl) ?_
          refine ag_getX5 (v := .ref o) hx hb hG hown hK hP 0 1 rfl (by decide) k_218 rfl dX5_would_35 ?_
          refine lv_iload_n hx hb dX5_would_38 rfl (lv_at hl 1 rfl) ?_
          refine lv_aload_n hx hb dX5_would_39 rfl (lv_at hl 0 rfl) ?_
          refine ag_getX5 (v := .ref t1) hx hb hG hown hK hP 0 2 rfl (by decide) k_219 rfl dX5_would_40 ?_
          refine ag_callVv (As := [.int p1, .ref t1]) (rest := []) hx hb hml hown hG hK hN hA hP hD hS hl (ct_X1_letPass l D cI cC cL o t1 o1 o2 o3 f se to re kf p1 p1.toNatClampNeg (ag_nn c_1)) fX1_letPass k_423 (ag_cut_1 [oX x0 h o t1 x1 y1 z1, oH x1 x2 hf, aL cL x2 (gS s0 s1 s2 s3), oL s0 s01 s02 s03 (sf 0), aI cI s01 3 (sse 0), aI cI s02 7 (sto 0), aI cI s03 60 (sre 0), oL s1 s11 s12 s13 (sf 1), aI cI s11 3 (sse 1), aI cI s12 7 (sto 1), aI cI s13 60 (sre 1), oL s2 s21 s22 s23 (sf 2), aI cI s21 3 (sse 2), aI cI s22 7 (sto 2), aI cI s23 60 (sre 2), oL s3 s31 s32 s33 (sf 3), aI cI s31 3 (sse 3), aI cI s32 7 (sto 3), aI cI s33 60 (sre 3), oL h h1 h2 h3 f, aI cI h1 3 se, aI cI h2 7 to, aI cI h3 60 re, oP z1 pf, oT y1 y2 tf, aC cC y2 60 ch] [] rfl) (q0 := 26) rfl rfl rfl rfl (Nat.le_of_ble_eq_true rfl) ⟨Nat.le_of_ble_eq_true rfl, Nat.le_of_ble_eq_true rfl⟩ ⟨Nat.zero_le _, Nat.zero_le _⟩ dX5_would_43 (fun w1 H locs hw hP hD hS => ?_)
          have hw : _ = w1 := hw
          generalize eg43_1 : (lp se p1.toNatClampNeg (f, to, re, kf)).1 = g43_1 at hw
          replace eg43_1 : gv43_1_X5_would f se to re kf p1 = g43_1 := (by rw [← eg43_1]; rfl)
          generalize eg43_2 : (lp se p1.toNatClampNeg (f, to, re, kf)).2.1 = g43_2 at hw
          replace eg43_2 : gv43_2_X5_would f se to re kf p1 = g43_2 := (by rw [← eg43_2]; rfl)
          generalize eg43_3 : (lp se p1.toNatClampNeg (f, to, re, kf)).2.2.1 = g43_3 at hw
          replace eg43_3 : gv43_3_X5_would f se to re kf p1 = g43_3 := (by rw [← eg43_3]; rfl)
          generalize eg43_4 : (lp se p1.toNatClampNeg (f, to, re, kf)).2.2.2 = g43_4 at hw
          replace eg43_4 : gv43_4_X5_would f se to re kf p1 = g43_4 := (by rw [← eg43_4]; rfl)
          subst hw
          have hP : va_P D vwCl [oX x0 h o t1 x1 y1 z1, oH x1 x2 hf, aL cL x2 (gS s0 s1 s2 s3), oL s0 s01 s02 s03 (sf 0), aI cI s01 3 (sse 0), aI cI s02 7 (sto 0), aI cI s03 60 (sre 0), oL s1 s11 s12 s13 (sf 1), aI cI s11 3 (sse 1), aI cI s12 7 (sto 1), aI cI s13 60 (sre 1), oL s2 s21 s22 s23 (sf 2), aI cI s21 3 (sse 2), aI cI s22 7 (sto 2), aI cI s23 60 (sre 2), oL s3 s31 s32 s33 (sf 3), aI cI s31 3 (sse 3), aI cI s32 7 (sto 3), aI cI s33 60 (sre 3), oL h h1 h2 h3 f, aI cI h1 3 se, aI cI h2 7 to, aI cI h3 60 re, oP z1 pf, oT y1 y2 tf, aC cC y2 60 ch, oL o o1 o2 o3 g43_1, aI cI o1 3 se, aI cI o2 7 g43_2, aI cI o3 60 g43_3, oK t1 g43_4] H := hP
          have hD : va_D A [oX x0 h o t1 x1 y1 z1, oH x1 x2 hf, aL cL x2 (gS s0 s1 s2 s3), oL s0 s01 s02 s03 (sf 0), aI cI s01 3 (sse 0), aI cI s02 7 (sto 0), aI cI s03 60 (sre 0), oL s1 s11 s12 s13 (sf 1), aI cI s11 3 (sse 1), aI cI s12 7 (sto 1), aI cI s13 60 (sre 1), oL s2 s21 s22 s23 (sf 2), aI cI s21 3 (sse 2), aI cI s22 7 (sto 2), aI cI s23 60 (sre 2), oL s3 s31 s32 s33 (sf 3), aI cI s31 3 (sse 3), aI cI s32 7 (sto 3), aI cI s33 60 (sre 3), oL h h1 h2 h3 f, aI cI h1 3 se, aI cI h2 7 to, aI cI h3 60 re, oP z1 pf, oT y1 y2 tf, aC cC y2 60 ch, oL o o1 o2 o3 g43_1, aI cI o1 3 se, aI cI o2 7 g43_2, aI cI o3 60 g43_3, oK t1 g43_4] := hD
          refine lv_iload_n hx hb dX5_would_46 rfl (lv_at hl 2 rfl) ?_
          by_cases c_47_0 : p2 = 0
          · refine lv_tableIn (off := 25) (tgt := 72) hx hb dX5_would_47 (by rw [c_47_0]; decide) (by rw [c_47_0]; decide) (by rw [c_47_0]; rfl) (by decide) ?_
            refine lv_aload_n hx hb dX5_would_72 rfl (lv_at hl 0 rfl) ?_
            refine ag_getX5 (v := .ref o) hx hb hG hown hK hP 0 1 rfl (by decide) k_218 rfl dX5_would_73 ?_
            refine ag_callVi (As := []) (rest := []) hx hb hml hown hG hK hN hA hP hD hS hl (ct_X1_level l D cI cC cL o o1 o2 o3 g43_1 se g43_2 g43_3) fX1_level k_393 (ag_cut_1 [oX x0 h o t1 x1 y1 z1, oH x1 x2 hf, aL cL x2 (gS s0 s1 s2 s3), oL s0 s01 s02 s03 (sf 0), aI cI s01 3 (sse 0), aI cI s02 7 (sto 0), aI cI s03 60 (sre 0), oL s1 s11 s12 s13 (sf 1), aI cI s11 3 (sse 1), aI cI s12 7 (sto 1), aI cI s13 60 (sre 1), oL s2 s21 s22 s23 (sf 2), aI cI s21 3 (sse 2), aI cI s22 7 (sto 2), aI cI s23 60 (sre 2), oL s3 s31 s32 s33 (sf 3), aI cI s31 3 (sse 3), aI cI s32 7 (sto 3), aI cI s33 60 (sre 3), oL h h1 h2 h3 f, aI cI h1 3 se, aI cI h2 7 to, aI cI h3 60 re, oP z1 pf, oT y1 y2 tf, aC cC y2 60 ch] [oK t1 g43_4] rfl) (q0 := 26) rfl rfl rfl rfl (Nat.le_of_ble_eq_true rfl) ⟨Nat.le_of_ble_eq_true rfl, Nat.le_of_ble_eq_true rfl⟩ ⟨Nat.zero_le _, Nat.zero_le _⟩ dX5_would_76 (fun r w1 H locs hw hP hD hS => ?_)
            obtain ⟨rfl, hw⟩ := hw
            subst hw
            have hP : va_P D vwCl [oX x0 h o t1 x1 y1 z1, oH x1 x2 hf, aL cL x2 (gS s0 s1 s2 s3), oL s0 s01 s02 s03 (sf 0), aI cI s01 3 (sse 0), aI cI s02 7 (sto 0), aI cI s03 60 (sre 0), oL s1 s11 s12 s13 (sf 1), aI cI s11 3 (sse 1), aI cI s12 7 (sto 1), aI cI s13 60 (sre 1), oL s2 s21 s22 s23 (sf 2), aI cI s21 3 (sse 2), aI cI s22 7 (sto 2), aI cI s23 60 (sre 2), oL s3 s31 s32 s33 (sf 3), aI cI s31 3 (sse 3), aI cI s32 7 (sto 3), aI cI s33 60 (sre 3), oL h h1 h2 h3 f, aI cI h1 3 se, aI cI h2 7 to, aI cI h3 60 re, oP z1 pf, oT y1 y2 tf, aC cC y2 60 ch, oL o o1 o2 o3 g43_1, aI cI o1 3 se, aI cI o2 7 g43_2, aI cI o3 60 g43_3, oK t1 g43_4] H := hP
            have hD : va_D A [oX x0 h o t1 x1 y1 z1, oH x1 x2 hf, aL cL x2 (gS s0 s1 s2 s3), oL s0 s01 s02 s03 (sf 0), aI cI s01 3 (sse 0), aI cI s02 7 (sto 0), aI cI s03 60 (sre 0), oL s1 s11 s12 s13 (sf 1), aI cI s11 3 (sse 1), aI cI s12 7 (sto 1), aI cI s13 60 (sre 1), oL s2 s21 s22 s23 (sf 2), aI cI s21 3 (sse 2), aI cI s22 7 (sto 2), aI cI s23 60 (sre 2), oL s3 s31 s32 s33 (sf 3), aI cI s31 3 (sse 3), aI cI s32 7 (sto 3), aI cI s33 60 (sre 3), oL h h1 h2 h3 f, aI cI h1 3 se, aI cI h2 7 to, aI cI h3 60 re, oP z1 pf, oT y1 y2 tf, aC cC y2 60 ch, oL o o1 o2 o3 g43_1, aI cI o1 3 se, aI cI o2 7 g43_2, aI cI o3 60 g43_3, oK t1 g43_4] := hD
            revert hP; revert hD; revert hS; revert hl
            subst eg43_4
            subst eg43_3
            subst eg43_2
            subst eg43_1
            intro hl hS hD hP
            exact ag_iret [x0, x1, x2, s0, s01, s02, s03, s1, s11, s12, s13, s2, s21, s22, s23, s3, s31, s32, s33, h, h1, h2, h3, z1, y1, y2, o, o1, o2, o3, t1] hx hb hr rfl hlocks hP hS rfl rfl ⟨(by unfold sr_X5_would; rw [if_neg c_1, if_neg c_8, if_neg c_12, if_pos c_17, if_pos c_47_0]), (by show _ = _; rw [show sw26_X5_would f se to re of kf p1 p2 = (gv43_1_X5_would f se to re kf p1) from (by unfold sw26_X5_would; rw [if_neg c_1, if_neg c_8, if_neg c_12, if_pos c_17]), show sw27_X5_would se ose p1 p2 = se from (by unfold sw27_X5_would; rw [if_neg c_1, if_neg c_8, if_neg c_12, if_pos c_17]), show sw28_X5_would f se to re oto kf p1 p2 = (gv43_2_X5_would f se to re kf p1) from (by unfold sw28_X5_would; rw [if_neg c_1, if_neg c_8, if_neg c_12, if_pos c_17]), show sw29_X5_would f se to re ore kf p1 p2 = (gv43_3_X5_would f se to re kf p1) from (by unfold sw29_X5_would; rw [if_neg c_1, if_neg c_8, if_neg c_12, if_pos c_17]), show sw30_X5_would f se to re kf p1 p2 = (gv43_4_X5_would f se to re kf p1) from (by unfold sw30_X5_would; rw [if_neg c_1, if_neg c_8, if_neg c_12, if_pos c_17])])⟩ dX5_would_79
          · by_cases c_47_1 : p2 = 1
            · refine lv_tableIn (off := 33) (tgt := 80) hx hb dX5_would_47 (by rw [c_47_1]; decide) (by rw [c_47_1]; decide) (by rw [c_47_1]; rfl) (by decide) ?_
              refine lv_aload_n hx hb dX5_would_80 rfl (lv_at hl 0 rfl) ?_
              refine ag_getX5 (v := .ref o) hx hb hG hown hK hP 0 1 rfl (by decide) k_218 rfl dX5_would_81 ?_
              refine ag_getX1 (v := .ref o2) hx hb hG hown hK hP 26 9 rfl (by decide) k_76 rfl dX5_would_84 ?_
              refine lv_iconst (v := 0) hx hb dX5_would_87 (by decide) ?_
              refine ag_ild (k := 0) (v := g43_2 0) hx hb hK hP 28 rfl rfl (Nat.le_of_ble_eq_true rfl) (Nat.le_of_ble_eq_true rfl) rfl dX5_would_88 ?_
              refine lv_aload_n hx hb dX5_would_89 rfl (lv_at hl 0 rfl) ?_
              refine ag_getX5 (v := .ref h) hx hb hG hown hK hP 0 0 rfl (by decide) k_217 rfl dX5_would_90 ?_
              refine ag_getX1 (v := .ref h2) hx hb hG hown hK hP 19 9 rfl (by decide) k_76 rfl dX5_would_93 ?_
              refine lv_iconst (v := 0) hx hb dX5_would_96 (by decide) ?_
              refine ag_ild (k := 0) (v := to 0) hx hb hK hP 21 rfl rfl (Nat.le_of_ble_eq_true rfl) (Nat.le_of_ble_eq_true rfl) rfl dX5_would_97 ?_
              refine lv_isub hx hb dX5_would_98 ?_
              revert hP; revert hD; revert hS; revert hl
              subst eg43_4
              subst eg43_3
              subst eg43_2
              subst eg43_1
              intro hl hS hD hP
              exact ag_iret [x0, x1, x2, s0, s01, s02, s03, s1, s11, s12, s13, s2, s21, s22, s23, s3, s31, s32, s33, h, h1, h2, h3, z1, y1, y2, o, o1, o2, o3, t1] hx hb hr rfl hlocks hP hS rfl rfl ⟨(by unfold sr_X5_would; rw [if_neg c_1, if_neg c_8, if_neg c_12, if_pos c_17, if_neg c_47_0, if_pos c_47_1]), (by show _ = _; rw [show sw26_X5_would f se to re of kf p1 p2 = (gv43_1_X5_would f se to re kf p1) from (by unfold sw26_X5_would; rw [if_neg c_1, if_neg c_8, if_neg c_12, if_pos c_17]), show sw27_X5_would se ose p1 p2 = se from (by unfold sw27_X5_would; rw [if_neg c_1, if_neg c_8, if_neg c_12, if_pos c_17]), show sw28_X5_would f se to re oto kf p1 p2 = (gv43_2_X5_would f se to re kf p1) from (by unfold sw28_X5_would; rw [if_neg c_1, if_neg c_8, if_neg c_12, if_pos c_17]), show sw29_X5_would f se to re ore kf p1 p2 = (gv43_3_X5_would f se to re kf p1) from (by unfold sw29_X5_would; rw [if_neg c_1, if_neg c_8, if_neg c_12, if_pos c_17]), show sw30_X5_would f se to re kf p1 p2 = (gv43_4_X5_would f se to re kf p1) from (by unfold sw30_X5_would; rw [if_neg c_1, if_neg c_8, if_neg c_12, if_pos c_17])])⟩ dX5_would_99
            · by_cases c_47_2 : p2 = 2
              · refine lv_tableIn (off := 53) (tgt := 100) hx hb dX5_would_47 (by rw [c_47_2]; decide) (by rw [c_47_2]; decide) (by rw [c_47_2]; rfl) (by decide) ?_
                refine lv_aload_n hx hb dX5_would_100 rfl (lv_at hl 0 rfl) ?_
                refine ag_getX5 (v := .ref o) hx hb hG hown hK hP 0 1 rfl (by decide) k_218 rfl dX5_would_101 ?_
                refine ag_getX1 (v := .ref o2) hx hb hG hown hK hP 26 9 rfl (by decide) k_76 rfl dX5_would_104 ?_
                refine lv_iconst (v := 1) hx hb dX5_would_107 (by decide) ?_
                refine ag_ild (k := 1) (v := g43_2 1) hx hb hK hP 28 rfl rfl (Nat.le_of_ble_eq_true rfl) (Nat.le_of_ble_eq_true rfl) rfl dX5_would_108 ?_
                refine lv_aload_n hx hb dX5_would_109 rfl (lv_at hl 0 rfl) ?_
                refine ag_getX5 (v := .ref h) hx hb hG hown hK hP 0 0 rfl (by decide) k_217 rfl dX5_would_110 ?_
                refine ag_getX1 (v := .ref h2) hx hb hG hown hK hP 19 9 rfl (by decide) k_76 rfl dX5_would_113 ?_
                refine lv_iconst (v := 1) hx hb dX5_would_116 (by decide) ?_
                refine ag_ild (k := 1) (v := to 1) hx hb hK hP 21 rfl rfl (Nat.le_of_ble_eq_true rfl) (Nat.le_of_ble_eq_true rfl) rfl dX5_would_117 ?_
                refine lv_isub hx hb dX5_would_118 ?_
                revert hP; revert hD; revert hS; revert hl
                subst eg43_4
                subst eg43_3
                subst eg43_2
                subst eg43_1
                intro hl hS hD hP
                exact ag_iret [x0, x1, x2, s0, s01, s02, s03, s1, s11, s12, s13, s2, s21, s22, s23, s3, s31, s32, s33, h, h1, h2, h3, z1, y1, y2, o, o1, o2, o3, t1] hx hb hr rfl hlocks hP hS rfl rfl ⟨(by unfold sr_X5_would; rw [if_neg c_1, if_neg c_8, if_neg c_12, if_pos c_17, if_neg c_47_0, if_neg c_47_1, if_pos c_47_2]), (by show _ = _; rw [show sw26_X5_would f se to re of kf p1 p2 = (gv43_1_X5_would f se to re kf p1) from (by unfold sw26_X5_would; rw [if_neg c_1, if_neg c_8, if_neg c_12, if_pos c_17]), show sw27_X5_would se ose p1 p2 = se from (by unfold sw27_X5_would; rw [if_neg c_1, if_neg c_8, if_neg c_12, if_pos c_17]), show sw28_X5_would f se to re oto kf p1 p2 = (gv43_2_X5_would f se to re kf p1) from (by unfold sw28_X5_would; rw [if_neg c_1, if_neg c_8, if_neg c_12, if_pos c_17]), show sw29_X5_would f se to re ore kf p1 p2 = (gv43_3_X5_would f se to re kf p1) from (by unfold sw29_X5_would; rw [if_neg c_1, if_neg c_8, if_neg c_12, if_pos c_17]), show sw30_X5_would f se to re kf p1 p2 = (gv43_4_X5_would f se to re kf p1) from (by unfold sw30_X5_would; rw [if_neg c_1, if_neg c_8, if_neg c_12, if_pos c_17])])⟩ dX5_would_119
              · refine lv_tableOut (tgt := 120) hx hb dX5_would_47 (by have h0 := lv_neT c_47_0 (a := 0) rfl; have h1 := lv_neT c_47_1 (a := 1) rfl; have h2 := lv_neT c_47_2 (a := 2) rfl; omega) (by decide) ?_
                refine lv_aload_n hx hb dX5_would_120 rfl (lv_at hl 0 rfl) ?_
                refine ag_getX5 (v := .ref o) hx hb hG hown hK hP 0 1 rfl (by decide) k_218 rfl dX5_would_121 ?_
                refine ag_getX1 (v := .int (g43_1 2)) hx hb hG hown hK hP 26 2 rfl (by decide) k_60 rfl dX5_would_124 ?_
                revert hP; revert hD; revert hS; revert hl
                subst eg43_4
                subst eg43_3
                subst eg43_2
                subst eg43_1
                intro hl hS hD hP
                exact ag_iret [x0, x1, x2, s0, s01, s02, s03, s1, s11, s12, s13, s2, s21, s22, s23, s3, s31, s32, s33, h, h1, h2, h3, z1, y1, y2, o, o1, o2, o3, t1] hx hb hr rfl hlocks hP hS rfl rfl ⟨(by unfold sr_X5_would; rw [if_neg c_1, if_neg c_8, if_neg c_12, if_pos c_17, if_neg c_47_0, if_neg c_47_1, if_neg c_47_2]), (by show _ = _; rw [show sw26_X5_would f se to re of kf p1 p2 = (gv43_1_X5_would f se to re kf p1) from (by unfold sw26_X5_would; rw [if_neg c_1, if_neg c_8, if_neg c_12, if_pos c_17]), show sw27_X5_would se ose p1 p2 = se from (by unfold sw27_X5_would; rw [if_neg c_1, if_neg c_8, if_neg c_12, if_pos c_17]), show sw28_X5_would f se to re oto kf p1 p2 = (gv43_2_X5_would f se to re kf p1) from (by unfold sw28_X5_would; rw [if_neg c_1, if_neg c_8, if_neg c_12, if_pos c_17]), show sw29_X5_would f se to re ore kf p1 p2 = (gv43_3_X5_would f se to re kf p1) from (by unfold sw29_X5_would; rw [if_neg c_1, if_neg c_8, if_neg c_12, if_pos c_17]), show sw30_X5_would f se to re kf p1 p2 = (gv43_4_X5_would f se to re kf p1) from (by unfold sw30_X5_would; rw [if_neg c_1, if_neg c_8, if_neg c_12, if_pos c_17])])⟩ dX5_would_127
        · refine lv_ldc (v := (-1000000001)) hx hb hown (hG _ k_259) dX5_would_20 ?_
          exact ag_iret [x0, x1, x2, s0, s01, s02, s03, s1, s11, s12, s13, s2, s21, s22, s23, s3, s31, s32, s33, h, h1, h2, h3, z1, y1, y2, o, o1, o2, o3, t1] hx hb hr rfl hlocks hP hS rfl rfl ⟨(by unfold sr_X5_would; rw [if_neg c_1, if_neg c_8, if_neg c_12, if_neg c_17]), (by show _ = _; rw [show sw26_X5_would f se to re of kf p1 p2 = of from (by unfold sw26_X5_would; rw [if_neg c_1, if_neg c_8, if_neg c_12, if_neg c_17]), show sw27_X5_would se ose p1 p2 = ose from (by unfold sw27_X5_would; rw [if_neg c_1, if_neg c_8, if_neg c_12, if_neg c_17]), show sw28_X5_would f se to re oto kf p1 p2 = oto from (by unfold sw28_X5_would; rw [if_neg c_1, if_neg c_8, if_neg c_12, if_neg c_17]), show sw29_X5_would f se to re ore kf p1 p2 = ore from (by unfold sw29_X5_would; rw [if_neg c_1, if_neg c_8, if_neg c_12, if_neg c_17]), show sw30_X5_would f se to re kf p1 p2 = kf from (by unfold sw30_X5_would; rw [if_neg c_1, if_neg c_8, if_neg c_12, if_neg c_17])])⟩ dX5_would_22
theorem ag_cnt {x : Int32} (h0 : ¬ x < 20) (h1 : ¬ 23 ≤ x) : x - 20 = nI (x - 20).toNatClampNeg ∧ (x - 20).toNatClampNeg < 3 := by
  rw [Int32.lt_iff_toInt_lt, show (20 : Int32).toInt = 20 from rfl] at h0
  rw [Int32.le_iff_toInt_le, show (23 : Int32).toInt = 23 from rfl] at h1
  have e : (x - 20).toInt = x.toInt - 20 := by
    rw [Int32.toInt_sub, show (20 : Int32).toInt = 20 from rfl, ag_bm (by omega) (by omega)]
  have h2 : x - 20 = nI (x.toInt - 20).toNat := ag_ofT (by rw [e]; omega) (by omega)
  rw [h2, nI_clamp (by omega)]
  exact ⟨rfl, by omega⟩
theorem ag_i2c {x : Int32} (h0 : ¬ x < 32) (h1 : x ≤ 126) : (x.toUInt32 % 65536).toInt32 = x ∧ vp_nar .char x = x ∧ ∃ q : Nat, q < 128 ∧ x = nI q := by
  rw [Int32.lt_iff_toInt_lt, show (32 : Int32).toInt = 32 from rfl] at h0
  rw [Int32.le_iff_toInt_le, show (126 : Int32).toInt = 126 from rfl] at h1
  have h2 : x = nI x.toInt.toNat := ag_ofT (by omega) (by omega)
  have hq : x.toInt.toNat < 128 := by omega
  refine ⟨?_, ?_, x.toInt.toNat, hq, h2⟩
  · rw [pk_char]
    have h3 : x.toBitVec.toNat = x.toInt.toNat := by
      have := pk_tn (n := x.toInt.toNat) (by omega)
      rw [← h2] at this
      exact this
    rw [h3, Nat.mod_eq_of_lt (by omega)]
    exact h2.symm
  · have := (pk_charN (q := x.toInt.toNat) (by omega)).1
    rw [← h2] at this
    unfold vp_nar
    rw [this]
def sr_X5_count (hf : Nat → Int32) (f : Nat → Int32) (se : Nat → Int32) (to : Nat → Int32) (tf : Nat → Int32) (p1 : Int32) : Int32 := if p1 < 0 then if p1 < 20 then if p1 = 7 then ((sr_X1_lastDay f) - (sr_X1_firstDay f)) + 1 else if p1 = 8 then hf 1 else if p1 = 9 then tf 0 else (-1000000001) else if 23 ≤ p1 then if p1 = 7 then ((sr_X1_lastDay f) - (sr_X1_firstDay f)) + 1 else if p1 = 8 then hf 1 else if p1 = 9 then tf 0 else (-1000000001) else se ((p1 - 20).toNatClampNeg) else if 7 ≤ p1 then if p1 < 20 then if p1 = 7 then ((sr_X1_lastDay f) - (sr_X1_firstDay f)) + 1 else if p1 = 8 then hf 1 else if p1 = 9 then tf 0 else (-1000000001) else if 23 ≤ p1 then if p1 = 7 then ((sr_X1_lastDay f) - (sr_X1_firstDay f)) + 1 else if p1 = 8 then hf 1 else if p1 = 9 then tf 0 else (-1000000001) else se ((p1 - 20).toNatClampNeg) else to p1.toNatClampNeg
abbrev po_X5_count (cI cC cL : ClassId) (x0 h o t1 x1 y1 z1 x2 s0 s01 s02 s03 s1 s11 s12 s13 s2 s21 s22 s23 s3 s31 s32 s33 h1 h2 h3 y2 o1 o2 o3 : Nat) (hf f se to re pf tf ch of ose oto ore kf : Nat → Int32) (p1 : Int32) (sf : Nat → Nat → Int32) (sse : Nat → Nat → Int32) (sto : Nat → Nat → Int32) (sre : Nat → Nat → Int32) : Int32 → va_W → Prop := fun r w' => sr_X5_count hf f se to tf p1 = r ∧ [oX x0 h o t1 x1 y1 z1, oH x1 x2 hf, aL cL x2 (gS s0 s1 s2 s3), oL s0 s01 s02 s03 (sf 0), aI cI s01 3 (sse 0), aI cI s02 7 (sto 0), aI cI s03 60 (sre 0), oL s1 s11 s12 s13 (sf 1), aI cI s11 3 (sse 1), aI cI s12 7 (sto 1), aI cI s13 60 (sre 1), oL s2 s21 s22 s23 (sf 2), aI cI s21 3 (sse 2), aI cI s22 7 (sto 2), aI cI s23 60 (sre 2), oL s3 s31 s32 s33 (sf 3), aI cI s31 3 (sse 3), aI cI s32 7 (sto 3), aI cI s33 60 (sre 3), oL h h1 h2 h3 f, aI cI h1 3 se, aI cI h2 7 to, aI cI h3 60 re, oP z1 pf, oT y1 y2 tf, aC cC y2 60 ch, oL o o1 o2 o3 of, aI cI o1 3 ose, aI cI o2 7 oto, aI cI o3 60 ore, oK t1 kf] = w'
set_option maxHeartbeats 4000000 in
set_option maxRecDepth 100000 in
theorem ct_X5_count (l : Launch) (D : va_G) (cI cC cL : ClassId) (x0 h o t1 x1 y1 z1 x2 s0 s01 s02 s03 s1 s11 s12 s13 s2 s21 s22 s23 s3 s31 s32 s33 h1 h2 h3 y2 o1 o2 o3 : Nat) (hf f se to re pf tf ch of ose oto ore kf : Nat → Int32) (p1 : Int32) (sf : Nat → Nat → Int32) (sse : Nat → Nat → Int32) (sto : Nat → Nat → Int32) (sre : Nat → Nat → Int32) : ag_MI l yX5_count cX5_count 2 .int 3 62 D cI cC cL [.ref x0, .int p1] [oX x0 h o t1 x1 y1 z1, oH x1 x2 hf, aL cL x2 (gS s0 s1 s2 s3), oL s0 s01 s02 s03 (sf 0), aI cI s01 3 (sse 0), aI cI s02 7 (sto 0), aI cI s03 60 (sre 0), oL s1 s11 s12 s13 (sf 1), aI cI s11 3 (sse 1), aI cI s12 7 (sto 1), aI cI s13 60 (sre 1), oL s2 s21 s22 s23 (sf 2), aI cI s21 3 (sse 2), aI cI s22 7 (sto 2), aI cI s23 60 (sre 2), oL s3 s31 s32 s33 (sf 3), aI cI s31 3 (sse 3), aI cI s32 7 (sto 3), aI cI s33 60 (sre 3), oL h h1 h2 h3 f, aI cI h1 3 se, aI cI h2 7 to, aI cI h3 60 re, oP z1 pf, oT y1 y2 tf, aC cC y2 60 ch, oL o o1 o2 o3 of, aI cI o1 3 ose, aI cI o2 7 oto, aI cI o3 60 ore, oK t1 kf] (po_X5_count cI cC cL x0 h o t1 x1 y1 z1 x2 s0 s01 s02 s03 s1 s11 s12 s13 s2 s21 s22 s23 s3 s31 s32 s33 h1 h2 h3 y2 o1 o2 o3 hf f se to re pf tf ch of ose oto ore kf p1 sf sse sto sre) := by
  refine ag_MI.of (plainFor_of_name (by decide)) (Nat.le_of_ble_eq_true rfl) ?_
  intro p e s m below meth c hx hb hr hlocks hml hown hmn hG hK A hN hA H locs hP hD hS ls hl
  have hl : lv_has ls 2 [(0, .ref x0), (1, .int p1)] := hl
  refine lv_iload_n hx hb dX5_count_0 rfl (lv_at hl 1 rfl) ?_
  refine lv_if_lt (tgt := 20) hx hb dX5_count_1 (by decide) (fun c_1 => ?_) (fun c_1 => ?_)
  · refine lv_iload_n hx hb dX5_count_20 rfl (lv_at hl 1 rfl) ?_
    refine lv_bipush (v := 20) hx hb dX5_count_21 (by decide) ?_
    refine lv_icmp_lt (tgt := 45) hx hb dX5_count_23 (by decide) (fun c_23 => ?_) (fun c_23 => ?_)
    · refine lv_iload_n hx hb dX5_count_45 rfl (lv_at hl 1 rfl) ?_
      by_cases c_46_7 : p1 = 7
      · refine lv_tableIn (off := 26) (tgt := 72) hx hb dX5_count_46 (by rw [c_46_7]; decide) (by rw [c_46_7]; decide) (by rw [c_46_7]; rfl) (by decide) ?_
        refine lv_aload_n hx hb dX5_count_72 rfl (lv_at hl 0 rfl) ?_
        refine ag_getX5 (v := .ref h) hx hb hG hown hK hP 0 0 rfl (by decide) k_217 rfl dX5_count_73 ?_
        refine ag_callVi (As := []) (rest := []) hx hb hml hown hG hK hN hA hP hD hS hl (ct_X1_lastDay l D cI cC cL h h1 h2 h3 f se to re) fX1_lastDay k_411 (ag_cut_1 [oX x0 h o t1 x1 y1 z1, oH x1 x2 hf, aL cL x2 (gS s0 s1 s2 s3), oL s0 s01 s02 s03 (sf 0), aI cI s01 3 (sse 0), aI cI s02 7 (sto 0), aI cI s03 60 (sre 0), oL s1 s11 s12 s13 (sf 1), aI cI s11 3 (sse 1), aI cI s12 7 (sto 1), aI cI s13 60 (sre 1), oL s2 s21 s22 s23 (sf 2), aI cI s21 3 (sse 2), aI cI s22 7 (sto 2), aI cI s23 60 (sre 2), oL s3 s31 s32 s33 (sf 3), aI cI s31 3 (sse 3), aI cI s32 7 (sto 3), aI cI s33 60 (sre 3)] [oP z1 pf, oT y1 y2 tf, aC cC y2 60 ch, oL o o1 o2 o3 of, aI cI o1 3 ose, aI cI o2 7 oto, aI cI o3 60 ore, oK t1 kf] rfl) (q0 := 19) rfl rfl rfl rfl (Nat.le_of_ble_eq_true rfl) ⟨Nat.le_of_ble_eq_true rfl, Nat.le_of_ble_eq_true rfl⟩ ⟨Nat.zero_le _, Nat.zero_le _⟩ dX5_count_76 (fun r w1 H locs hw hP hD hS => ?_)
        obtain ⟨rfl, hw⟩ := hw
        subst hw
        have hP : va_P D vwCl [oX x0 h o t1 x1 y1 z1, oH x1 x2 hf, aL cL x2 (gS s0 s1 s2 s3), oL s0 s01 s02 s03 (sf 0), aI cI s01 3 (sse 0), aI cI s02 7 (sto 0), aI cI s03 60 (sre 0), oL s1 s11 s12 s13 (sf 1), aI cI s11 3 (sse 1), aI cI s12 7 (sto 1), aI cI s13 60 (sre 1), oL s2 s21 s22 s23 (sf 2), aI cI s21 3 (sse 2), aI cI s22 7 (sto 2), aI cI s23 60 (sre 2), oL s3 s31 s32 s33 (sf 3), aI cI s31 3 (sse 3), aI cI s32 7 (sto 3), aI cI s33 60 (sre 3), oL h h1 h2 h3 f, aI cI h1 3 se, aI cI h2 7 to, aI cI h3 60 re, oP z1 pf, oT y1 y2 tf, aC cC y2 60 ch, oL o o1 o2 o3 of, aI cI o1 3 ose, aI cI o2 7 oto, aI cI o3 60 ore, oK t1 kf] H := hP
        have hD : va_D A [oX x0 h o t1 x1 y1 z1, oH x1 x2 hf, aL cL x2 (gS s0 s1 s2 s3), oL s0 s01 s02 s03 (sf 0), aI cI s01 3 (sse 0), aI cI s02 7 (sto 0), aI cI s03 60 (sre 0), oL s1 s11 s12 s13 (sf 1), aI cI s11 3 (sse 1), aI cI s12 7 (sto 1), aI cI s13 60 (sre 1), oL s2 s21 s22 s23 (sf 2), aI cI s21 3 (sse 2), aI cI s22 7 (sto 2), aI cI s23 60 (sre 2), oL s3 s31 s32 s33 (sf 3), aI cI s31 3 (sse 3), aI cI s32 7 (sto 3), aI cI s33 60 (sre 3), oL h h1 h2 h3 f, aI cI h1 3 se, aI cI h2 7 to, aI cI h3 60 re, oP z1 pf, oT y1 y2 tf, aC cC y2 60 ch, oL o o1 o2 o3 of, aI cI o1 3 ose, aI cI o2 7 oto, aI cI o3 60 ore, oK t1 kf] := hD
        refine lv_aload_n hx hb dX5_count_79 rfl (lv_at hl 0 rfl) ?_
        refine ag_getX5 (v := .ref h) hx hb hG hown hK hP 0 0 rfl (by decide) k_217 rfl dX5_count_80 ?_
        refine ag_callVi (As := []) (rest := [.int (sr_X1_lastDay f)]) hx hb hml hown hG hK hN hA hP hD hS hl (ct_X1_firstDay l D cI cC cL h h1 h2 h3 f se to re) fX1_firstDay k_400 (ag_cut_1 [oX x0 h o t1 x1 y1 z1, oH x1 x2 hf, aL cL x2 (gS s0 s1 s2 s3), oL s0 s01 s02 s03 (sf 0), aI cI s01 3 (sse 0), aI cI s02 7 (sto 0), aI cI s03 60 (sre 0), oL s1 s11 s12 s13 (sf 1), aI cI s11 3 (sse 1), aI cI s12 7 (sto 1), aI cI s13 60 (sre 1), oL s2 s21 s22 s23 (sf 2), aI cI s21 3 (sse 2), aI cI s22 7 (sto 2), aI cI s23 60 (sre 2), oL s3 s31 s32 s33 (sf 3), aI cI s31 3 (sse 3), aI cI s32 7 (sto 3), aI cI s33 60 (sre 3)] [oP z1 pf, oT y1 y2 tf, aC cC y2 60 ch, oL o o1 o2 o3 of, aI cI o1 3 ose, aI cI o2 7 oto, aI cI o3 60 ore, oK t1 kf] rfl) (q0 := 19) rfl rfl rfl rfl (Nat.le_of_ble_eq_true rfl) ⟨Nat.le_of_ble_eq_true rfl, Nat.le_of_ble_eq_true rfl⟩ ⟨Nat.zero_le _, Nat.zero_le _⟩ dX5_count_83 (fun r w1 H locs hw hP hD hS => ?_)
        obtain ⟨rfl, hw⟩ := hw
        subst hw
        have hP : va_P D vwCl [oX x0 h o t1 x1 y1 z1, oH x1 x2 hf, aL cL x2 (gS s0 s1 s2 s3), oL s0 s01 s02 s03 (sf 0), aI cI s01 3 (sse 0), aI cI s02 7 (sto 0), aI cI s03 60 (sre 0), oL s1 s11 s12 s13 (sf 1), aI cI s11 3 (sse 1), aI cI s12 7 (sto 1), aI cI s13 60 (sre 1), oL s2 s21 s22 s23 (sf 2), aI cI s21 3 (sse 2), aI cI s22 7 (sto 2), aI cI s23 60 (sre 2), oL s3 s31 s32 s33 (sf 3), aI cI s31 3 (sse 3), aI cI s32 7 (sto 3), aI cI s33 60 (sre 3), oL h h1 h2 h3 f, aI cI h1 3 se, aI cI h2 7 to, aI cI h3 60 re, oP z1 pf, oT y1 y2 tf, aC cC y2 60 ch, oL o o1 o2 o3 of, aI cI o1 3 ose, aI cI o2 7 oto, aI cI o3 60 ore, oK t1 kf] H := hP
        have hD : va_D A [oX x0 h o t1 x1 y1 z1, oH x1 x2 hf, aL cL x2 (gS s0 s1 s2 s3), oL s0 s01 s02 s03 (sf 0), aI cI s01 3 (sse 0), aI cI s02 7 (sto 0), aI cI s03 60 (sre 0), oL s1 s11 s12 s13 (sf 1), aI cI s11 3 (sse 1), aI cI s12 7 (sto 1), aI cI s13 60 (sre 1), oL s2 s21 s22 s23 (sf 2), aI cI s21 3 (sse 2), aI cI s22 7 (sto 2), aI cI s23 60 (sre 2), oL s3 s31 s32 s33 (sf 3), aI cI s31 3 (sse 3), aI cI s32 7 (sto 3), aI cI s33 60 (sre 3), oL h h1 h2 h3 f, aI cI h1 3 se, aI cI h2 7 to, aI cI h3 60 re, oP z1 pf, oT y1 y2 tf, aC cC y2 60 ch, oL o o1 o2 o3 of, aI cI o1 3 ose, aI cI o2 7 oto, aI cI o3 60 ore, oK t1 kf] := hD
        refine lv_isub hx hb dX5_count_86 ?_
        refine lv_iconst (v := 1) hx hb dX5_count_87 (by decide) ?_
        refine lv_iadd hx hb dX5_count_88 ?_
        exact ag_iret [x0, x1, x2, s0, s01, s02, s03, s1, s11, s12, s13, s2, s21, s22, s23, s3, s31, s32, s33, h, h1, h2, h3, z1, y1, y2, o, o1, o2, o3, t1] hx hb hr rfl hlocks hP hS rfl rfl ⟨(by unfold sr_X5_count; rw [if_pos c_1, if_pos c_23, if_pos c_46_7]), rfl⟩ dX5_count_89
      · by_cases c_46_8 : p1 = 8
        · refine lv_tableIn (off := 44) (tgt := 90) hx hb dX5_count_46 (by rw [c_46_8]; decide) (by rw [c_46_8]; decide) (by rw [c_46_8]; rfl) (by decide) ?_
          refine lv_aload_n hx hb dX5_count_90 rfl (lv_at hl 0 rfl) ?_
          refine ag_getX5 (v := .ref x1) hx hb hG hown hK hP 0 3 rfl (by decide) k_220 rfl dX5_count_91 ?_
          refine ag_getX0 (v := .int (hf 1)) hx hb hG hown hK hP 1 2 rfl (by decide) k_154 rfl dX5_count_94 ?_
          exact ag_iret [x0, x1, x2, s0, s01, s02, s03, s1, s11, s12, s13, s2, s21, s22, s23, s3, s31, s32, s33, h, h1, h2, h3, z1, y1, y2, o, o1, o2, o3, t1] hx hb hr rfl hlocks hP hS rfl rfl ⟨(by unfold sr_X5_count; rw [if_pos c_1, if_pos c_23, if_neg c_46_7, if_pos c_46_8]), rfl⟩ dX5_count_97
        · by_cases c_46_9 : p1 = 9
          · refine lv_tableIn (off := 52) (tgt := 98) hx hb dX5_count_46 (by rw [c_46_9]; decide) (by rw [c_46_9]; decide) (by rw [c_46_9]; rfl) (by decide) ?_
            refine lv_aload_n hx hb dX5_count_98 rfl (lv_at hl 0 rfl) ?_
            refine ag_getX5 (v := .ref y1) hx hb hG hown hK hP 0 4 rfl (by decide) k_221 rfl dX5_count_99 ?_
            refine ag_getX3 (v := .int (tf 0)) hx hb hG hown hK hP 24 1 rfl (by decide) k_171 rfl dX5_count_102 ?_
            exact ag_iret [x0, x1, x2, s0, s01, s02, s03, s1, s11, s12, s13, s2, s21, s22, s23, s3, s31, s32, s33, h, h1, h2, h3, z1, y1, y2, o, o1, o2, o3, t1] hx hb hr rfl hlocks hP hS rfl rfl ⟨(by unfold sr_X5_count; rw [if_pos c_1, if_pos c_23, if_neg c_46_7, if_neg c_46_8, if_pos c_46_9]), rfl⟩ dX5_count_105
          · refine lv_tableOut (tgt := 106) hx hb dX5_count_46 (by have h0 := lv_neT c_46_7 (a := 7) rfl; have h1 := lv_neT c_46_8 (a := 8) rfl; have h2 := lv_neT c_46_9 (a := 9) rfl; omega) (by decide) ?_
            refine lv_ldc (v := (-1000000001)) hx hb hown (hG _ k_259) dX5_count_106 ?_
            exact ag_iret [x0, x1, x2, s0, s01, s02, s03, s1, s11, s12, s13, s2, s21, s22, s23, s3, s31, s32, s33, h, h1, h2, h3, z1, y1, y2, o, o1, o2, o3, t1] hx hb hr rfl hlocks hP hS rfl rfl ⟨(by unfold sr_X5_count; rw [if_pos c_1, if_pos c_23, if_neg c_46_7, if_neg c_46_8, if_neg c_46_9]), rfl⟩ dX5_count_108
    · refine lv_iload_n hx hb dX5_count_26 rfl (lv_at hl 1 rfl) ?_
      refine lv_bipush (v := 23) hx hb dX5_count_27 (by decide) ?_
      refine lv_icmp_ge (tgt := 45) hx hb dX5_count_29 (by decide) (fun c_29 => ?_) (fun c_29 => ?_)
      · refine lv_iload_n hx hb dX5_count_45 rfl (lv_at hl 1 rfl) ?_
        by_cases c_46_7 : p1 = 7
        · refine lv_tableIn (off := 26) (tgt := 72) hx hb dX5_count_46 (by rw [c_46_7]; decide) (by rw [c_46_7]; decide) (by rw [c_46_7]; rfl) (by decide) ?_
          refine lv_aload_n hx hb dX5_count_72 rfl (lv_at hl 0 rfl) ?_
          refine ag_getX5 (v := .ref h) hx hb hG hown hK hP 0 0 rfl (by decide) k_217 rfl dX5_count_73 ?_
          refine ag_callVi (As := []) (rest := []) hx hb hml hown hG hK hN hA hP hD hS hl (ct_X1_lastDay l D cI cC cL h h1 h2 h3 f se to re) fX1_lastDay k_411 (ag_cut_1 [oX x0 h o t1 x1 y1 z1, oH x1 x2 hf, aL cL x2 (gS s0 s1 s2 s3), oL s0 s01 s02 s03 (sf 0), aI cI s01 3 (sse 0), aI cI s02 7 (sto 0), aI cI s03 60 (sre 0), oL s1 s11 s12 s13 (sf 1), aI cI s11 3 (sse 1), aI cI s12 7 (sto 1), aI cI s13 60 (sre 1), oL s2 s21 s22 s23 (sf 2), aI cI s21 3 (sse 2), aI cI s22 7 (sto 2), aI cI s23 60 (sre 2), oL s3 s31 s32 s33 (sf 3), aI cI s31 3 (sse 3), aI cI s32 7 (sto 3), aI cI s33 60 (sre 3)] [oP z1 pf, oT y1 y2 tf, aC cC y2 60 ch, oL o o1 o2 o3 of, aI cI o1 3 ose, aI cI o2 7 oto, aI cI o3 60 ore, oK t1 kf] rfl) (q0 := 19) rfl rfl rfl rfl (Nat.le_of_ble_eq_true rfl) ⟨Nat.le_of_ble_eq_true rfl, Nat.le_of_ble_eq_true rfl⟩ ⟨Nat.zero_le _, Nat.zero_le _⟩ dX5_count_76 (fun r w1 H locs hw hP hD hS => ?_)
          obtain ⟨rfl, hw⟩ := hw
          subst hw
          have hP : va_P D vwCl [oX x0 h o t1 x1 y1 z1, oH x1 x2 hf, aL cL x2 (gS s0 s1 s2 s3), oL s0 s01 s02 s03 (sf 0), aI cI s01 3 (sse 0), aI cI s02 7 (sto 0), aI cI s03 60 (sre 0), oL s1 s11 s12 s13 (sf 1), aI cI s11 3 (sse 1), aI cI s12 7 (sto 1), aI cI s13 60 (sre 1), oL s2 s21 s22 s23 (sf 2), aI cI s21 3 (sse 2), aI cI s22 7 (sto 2), aI cI s23 60 (sre 2), oL s3 s31 s32 s33 (sf 3), aI cI s31 3 (sse 3), aI cI s32 7 (sto 3), aI cI s33 60 (sre 3), oL h h1 h2 h3 f, aI cI h1 3 se, aI cI h2 7 to, aI cI h3 60 re, oP z1 pf, oT y1 y2 tf, aC cC y2 60 ch, oL o o1 o2 o3 of, aI cI o1 3 ose, aI cI o2 7 oto, aI cI o3 60 ore, oK t1 kf] H := hP
          have hD : va_D A [oX x0 h o t1 x1 y1 z1, oH x1 x2 hf, aL cL x2 (gS s0 s1 s2 s3), oL s0 s01 s02 s03 (sf 0), aI cI s01 3 (sse 0), aI cI s02 7 (sto 0), aI cI s03 60 (sre 0), oL s1 s11 s12 s13 (sf 1), aI cI s11 3 (sse 1), aI cI s12 7 (sto 1), aI cI s13 60 (sre 1), oL s2 s21 s22 s23 (sf 2), aI cI s21 3 (sse 2), aI cI s22 7 (sto 2), aI cI s23 60 (sre 2), oL s3 s31 s32 s33 (sf 3), aI cI s31 3 (sse 3), aI cI s32 7 (sto 3), aI cI s33 60 (sre 3), oL h h1 h2 h3 f, aI cI h1 3 se, aI cI h2 7 to, aI cI h3 60 re, oP z1 pf, oT y1 y2 tf, aC cC y2 60 ch, oL o o1 o2 o3 of, aI cI o1 3 ose, aI cI o2 7 oto, aI cI o3 60 ore, oK t1 kf] := hD
          refine lv_aload_n hx hb dX5_count_79 rfl (lv_at hl 0 rfl) ?_
          refine ag_getX5 (v := .ref h) hx hb hG hown hK hP 0 0 rfl (by decide) k_217 rfl dX5_count_80 ?_
          refine ag_callVi (As := []) (rest := [.int (sr_X1_lastDay f)]) hx hb hml hown hG hK hN hA hP hD hS hl (ct_X1_firstDay l D cI cC cL h h1 h2 h3 f se to re) fX1_firstDay k_400 (ag_cut_1 [oX x0 h o t1 x1 y1 z1, oH x1 x2 hf, aL cL x2 (gS s0 s1 s2 s3), oL s0 s01 s02 s03 (sf 0), aI cI s01 3 (sse 0), aI cI s02 7 (sto 0), aI cI s03 60 (sre 0), oL s1 s11 s12 s13 (sf 1), aI cI s11 3 (sse 1), aI cI s12 7 (sto 1), aI cI s13 60 (sre 1), oL s2 s21 s22 s23 (sf 2), aI cI s21 3 (sse 2), aI cI s22 7 (sto 2), aI cI s23 60 (sre 2), oL s3 s31 s32 s33 (sf 3), aI cI s31 3 (sse 3), aI cI s32 7 (sto 3), aI cI s33 60 (sre 3)] [oP z1 pf, oT y1 y2 tf, aC cC y2 60 ch, oL o o1 o2 o3 of, aI cI o1 3 ose, aI cI o2 7 oto, aI cI o3 60 ore, oK t1 kf] rfl) (q0 := 19) rfl rfl rfl rfl (Nat.le_of_ble_eq_true rfl) ⟨Nat.le_of_ble_eq_true rfl, Nat.le_of_ble_eq_true rfl⟩ ⟨Nat.zero_le _, Nat.zero_le _⟩ dX5_count_83 (fun r w1 H locs hw hP hD hS => ?_)
          obtain ⟨rfl, hw⟩ := hw
          subst hw
          have hP : va_P D vwCl [oX x0 h o t1 x1 y1 z1, oH x1 x2 hf, aL cL x2 (gS s0 s1 s2 s3), oL s0 s01 s02 s03 (sf 0), aI cI s01 3 (sse 0), aI cI s02 7 (sto 0), aI cI s03 60 (sre 0), oL s1 s11 s12 s13 (sf 1), aI cI s11 3 (sse 1), aI cI s12 7 (sto 1), aI cI s13 60 (sre 1), oL s2 s21 s22 s23 (sf 2), aI cI s21 3 (sse 2), aI cI s22 7 (sto 2), aI cI s23 60 (sre 2), oL s3 s31 s32 s33 (sf 3), aI cI s31 3 (sse 3), aI cI s32 7 (sto 3), aI cI s33 60 (sre 3), oL h h1 h2 h3 f, aI cI h1 3 se, aI cI h2 7 to, aI cI h3 60 re, oP z1 pf, oT y1 y2 tf, aC cC y2 60 ch, oL o o1 o2 o3 of, aI cI o1 3 ose, aI cI o2 7 oto, aI cI o3 60 ore, oK t1 kf] H := hP
          have hD : va_D A [oX x0 h o t1 x1 y1 z1, oH x1 x2 hf, aL cL x2 (gS s0 s1 s2 s3), oL s0 s01 s02 s03 (sf 0), aI cI s01 3 (sse 0), aI cI s02 7 (sto 0), aI cI s03 60 (sre 0), oL s1 s11 s12 s13 (sf 1), aI cI s11 3 (sse 1), aI cI s12 7 (sto 1), aI cI s13 60 (sre 1), oL s2 s21 s22 s23 (sf 2), aI cI s21 3 (sse 2), aI cI s22 7 (sto 2), aI cI s23 60 (sre 2), oL s3 s31 s32 s33 (sf 3), aI cI s31 3 (sse 3), aI cI s32 7 (sto 3), aI cI s33 60 (sre 3), oL h h1 h2 h3 f, aI cI h1 3 se, aI cI h2 7 to, aI cI h3 60 re, oP z1 pf, oT y1 y2 tf, aC cC y2 60 ch, oL o o1 o2 o3 of, aI cI o1 3 ose, aI cI o2 7 oto, aI cI o3 60 ore, oK t1 kf] := hD
          refine lv_isub hx hb dX5_count_86 ?_
          refine lv_iconst (v := 1) hx hb dX5_count_87 (by decide) ?_
          refine lv_iadd hx hb dX5_count_88 ?_
          exact ag_iret [x0, x1, x2, s0, s01, s02, s03, s1, s11, s12, s13, s2, s21, s22, s23, s3, s31, s32, s33, h, h1, h2, h3, z1, y1, y2, o, o1, o2, o3, t1] hx hb hr rfl hlocks hP hS rfl rfl ⟨(by unfold sr_X5_count; rw [if_pos c_1, if_neg c_23, if_pos c_29, if_pos c_46_7]), rfl⟩ dX5_count_89
        · by_cases c_46_8 : p1 = 8
          · refine lv_tableIn (off := 44) (tgt := 90) hx hb dX5_count_46 (by rw [c_46_8]; decide) (by rw [c_46_8]; decide) (by rw [c_46_8]; rfl) (by decide) ?_
            refine lv_aload_n hx hb dX5_count_90 rfl (lv_at hl 0 rfl) ?_
            refine ag_getX5 (v := .ref x1) hx hb hG hown hK hP 0 3 rfl (by decide) k_220 rfl dX5_count_91 ?_
            refine ag_getX0 (v := .int (hf 1)) hx hb hG hown hK hP 1 2 rfl (by decide) k_154 rfl dX5_count_94 ?_
            exact ag_iret [x0, x1, x2, s0, s01, s02, s03, s1, s11, s12, s13, s2, s21, s22, s23, s3, s31, s32, s33, h, h1, h2, h3, z1, y1, y2, o, o1, o2, o3, t1] hx hb hr rfl hlocks hP hS rfl rfl ⟨(by unfold sr_X5_count; rw [if_pos c_1, if_neg c_23, if_pos c_29, if_neg c_46_7, if_pos c_46_8]), rfl⟩ dX5_count_97
          · by_cases c_46_9 : p1 = 9
            · refine lv_tableIn (off := 52) (tgt := 98) hx hb dX5_count_46 (by rw [c_46_9]; decide) (by rw [c_46_9]; decide) (by rw [c_46_9]; rfl) (by decide) ?_
              refine lv_aload_n hx hb dX5_count_98 rfl (lv_at hl 0 rfl) ?_
              refine ag_getX5 (v := .ref y1) hx hb hG hown hK hP 0 4 rfl (by decide) k_221 rfl dX5_count_99 ?_
              refine ag_getX3 (v := .int (tf 0)) hx hb hG hown hK hP 24 1 rfl (by decide) k_171 rfl dX5_count_102 ?_
              exact ag_iret [x0, x1, x2, s0, s01, s02, s03, s1, s11, s12, s13, s2, s21, s22, s23, s3, s31, s32, s33, h, h1, h2, h3, z1, y1, y2, o, o1, o2, o3, t1] hx hb hr rfl hlocks hP hS rfl rfl ⟨(by unfold sr_X5_count; rw [if_pos c_1, if_neg c_23, if_pos c_29, if_neg c_46_7, if_neg c_46_8, if_pos c_46_9]), rfl⟩ dX5_count_105
            · refine lv_tableOut (tgt := 106) hx hb dX5_count_46 (by have h0 := lv_neT c_46_7 (a := 7) rfl; have h1 := lv_neT c_46_8 (a := 8) rfl; have h2 := lv_neT c_46_9 (a := 9) rfl; omega) (by decide) ?_
              refine lv_ldc (v := (-1000000001)) hx hb hown (hG _ k_259) dX5_count_106 ?_
              exact ag_iret [x0, x1, x2, s0, s01, s02, s03, s1, s11, s12, s13, s2, s21, s22, s23, s3, s31, s32, s33, h, h1, h2, h3, z1, y1, y2, o, o1, o2, o3, t1] hx hb hr rfl hlocks hP hS rfl rfl ⟨(by unfold sr_X5_count; rw [if_pos c_1, if_neg c_23, if_pos c_29, if_neg c_46_7, if_neg c_46_8, if_neg c_46_9]), rfl⟩ dX5_count_108
      · refine lv_aload_n hx hb dX5_count_32 rfl (lv_at hl 0 rfl) ?_
        refine ag_getX5 (v := .ref h) hx hb hG hown hK hP 0 0 rfl (by decide) k_217 rfl dX5_count_33 ?_
        refine ag_getX1 (v := .ref h1) hx hb hG hown hK hP 19 8 rfl (by decide) k_74 rfl dX5_count_36 ?_
        refine lv_iload_n hx hb dX5_count_39 rfl (lv_at hl 1 rfl) ?_
        refine lv_bipush (v := 20) hx hb dX5_count_40 (by decide) ?_
        refine lv_isub hx hb dX5_count_42 ?_
        refine ag_ild (k := (p1 - 20).toNatClampNeg) (v := se ((p1 - 20).toNatClampNeg)) hx hb hK hP 20 rfl (ag_cnt c_23 c_29).1 (ag_cnt c_23 c_29).2 (Nat.le_of_ble_eq_true rfl) rfl dX5_count_43 ?_
        exact ag_iret [x0, x1, x2, s0, s01, s02, s03, s1, s11, s12, s13, s2, s21, s22, s23, s3, s31, s32, s33, h, h1, h2, h3, z1, y1, y2, o, o1, o2, o3, t1] hx hb hr rfl hlocks hP hS rfl rfl ⟨(by unfold sr_X5_count; rw [if_pos c_1, if_neg c_23, if_neg c_29]), rfl⟩ dX5_count_44
  · refine lv_iload_n hx hb dX5_count_4 rfl (lv_at hl 1 rfl) ?_
    refine lv_bipush (v := 7) hx hb dX5_count_5 (by decide) ?_
    refine lv_icmp_ge (tgt := 20) hx hb dX5_count_7 (by decide) (fun c_7 => ?_) (fun c_7 => ?_)
    · refine lv_iload_n hx hb dX5_count_20 rfl (lv_at hl 1 rfl) ?_
      refine lv_bipush (v := 20) hx hb dX5_count_21 (by decide) ?_
      refine lv_icmp_lt (tgt := 45) hx hb dX5_count_23 (by decide) (fun c_23 => ?_) (fun c_23 => ?_)
      · refine lv_iload_n hx hb dX5_count_45 rfl (lv_at hl 1 rfl) ?_
        by_cases c_46_7 : p1 = 7
        · refine lv_tableIn (off := 26) (tgt := 72) hx hb dX5_count_46 (by rw [c_46_7]; decide) (by rw [c_46_7]; decide) (by rw [c_46_7]; rfl) (by decide) ?_
          refine lv_aload_n hx hb dX5_count_72 rfl (lv_at hl 0 rfl) ?_
          refine ag_getX5 (v := .ref h) hx hb hG hown hK hP 0 0 rfl (by decide) k_217 rfl dX5_count_73 ?_
          refine ag_callVi (As := []) (rest := []) hx hb hml hown hG hK hN hA hP hD hS hl (ct_X1_lastDay l D cI cC cL h h1 h2 h3 f se to re) fX1_lastDay k_411 (ag_cut_1 [oX x0 h o t1 x1 y1 z1, oH x1 x2 hf, aL cL x2 (gS s0 s1 s2 s3), oL s0 s01 s02 s03 (sf 0), aI cI s01 3 (sse 0), aI cI s02 7 (sto 0), aI cI s03 60 (sre 0), oL s1 s11 s12 s13 (sf 1), aI cI s11 3 (sse 1), aI cI s12 7 (sto 1), aI cI s13 60 (sre 1), oL s2 s21 s22 s23 (sf 2), aI cI s21 3 (sse 2), aI cI s22 7 (sto 2), aI cI s23 60 (sre 2), oL s3 s31 s32 s33 (sf 3), aI cI s31 3 (sse 3), aI cI s32 7 (sto 3), aI cI s33 60 (sre 3)] [oP z1 pf, oT y1 y2 tf, aC cC y2 60 ch, oL o o1 o2 o3 of, aI cI o1 3 ose, aI cI o2 7 oto, aI cI o3 60 ore, oK t1 kf] rfl) (q0 := 19) rfl rfl rfl rfl (Nat.le_of_ble_eq_true rfl) ⟨Nat.le_of_ble_eq_true rfl, Nat.le_of_ble_eq_true rfl⟩ ⟨Nat.zero_le _, Nat.zero_le _⟩ dX5_count_76 (fun r w1 H locs hw hP hD hS => ?_)
          obtain ⟨rfl, hw⟩ := hw
          subst hw
          have hP : va_P D vwCl [oX x0 h o t1 x1 y1 z1, oH x1 x2 hf, aL cL x2 (gS s0 s1 s2 s3), oL s0 s01 s02 s03 (sf 0), aI cI s01 3 (sse 0), aI cI s02 7 (sto 0), aI cI s03 60 (sre 0), oL s1 s11 s12 s13 (sf 1), aI cI s11 3 (sse 1), aI cI s12 7 (sto 1), aI cI s13 60 (sre 1), oL s2 s21 s22 s23 (sf 2), aI cI s21 3 (sse 2), aI cI s22 7 (sto 2), aI cI s23 60 (sre 2), oL s3 s31 s32 s33 (sf 3), aI cI s31 3 (sse 3), aI cI s32 7 (sto 3), aI cI s33 60 (sre 3), oL h h1 h2 h3 f, aI cI h1 3 se, aI cI h2 7 to, aI cI h3 60 re, oP z1 pf, oT y1 y2 tf, aC cC y2 60 ch, oL o o1 o2 o3 of, aI cI o1 3 ose, aI cI o2 7 oto, aI cI o3 60 ore, oK t1 kf] H := hP
          have hD : va_D A [oX x0 h o t1 x1 y1 z1, oH x1 x2 hf, aL cL x2 (gS s0 s1 s2 s3), oL s0 s01 s02 s03 (sf 0), aI cI s01 3 (sse 0), aI cI s02 7 (sto 0), aI cI s03 60 (sre 0), oL s1 s11 s12 s13 (sf 1), aI cI s11 3 (sse 1), aI cI s12 7 (sto 1), aI cI s13 60 (sre 1), oL s2 s21 s22 s23 (sf 2), aI cI s21 3 (sse 2), aI cI s22 7 (sto 2), aI cI s23 60 (sre 2), oL s3 s31 s32 s33 (sf 3), aI cI s31 3 (sse 3), aI cI s32 7 (sto 3), aI cI s33 60 (sre 3), oL h h1 h2 h3 f, aI cI h1 3 se, aI cI h2 7 to, aI cI h3 60 re, oP z1 pf, oT y1 y2 tf, aC cC y2 60 ch, oL o o1 o2 o3 of, aI cI o1 3 ose, aI cI o2 7 oto, aI cI o3 60 ore, oK t1 kf] := hD
          refine lv_aload_n hx hb dX5_count_79 rfl (lv_at hl 0 rfl) ?_
          refine ag_getX5 (v := .ref h) hx hb hG hown hK hP 0 0 rfl (by decide) k_217 rfl dX5_count_80 ?_
          refine ag_callVi (As := []) (rest := [.int (sr_X1_lastDay f)]) hx hb hml hown hG hK hN hA hP hD hS hl (ct_X1_firstDay l D cI cC cL h h1 h2 h3 f se to re) fX1_firstDay k_400 (ag_cut_1 [oX x0 h o t1 x1 y1 z1, oH x1 x2 hf, aL cL x2 (gS s0 s1 s2 s3), oL s0 s01 s02 s03 (sf 0), aI cI s01 3 (sse 0), aI cI s02 7 (sto 0), aI cI s03 60 (sre 0), oL s1 s11 s12 s13 (sf 1), aI cI s11 3 (sse 1), aI cI s12 7 (sto 1), aI cI s13 60 (sre 1), oL s2 s21 s22 s23 (sf 2), aI cI s21 3 (sse 2), aI cI s22 7 (sto 2), aI cI s23 60 (sre 2), oL s3 s31 s32 s33 (sf 3), aI cI s31 3 (sse 3), aI cI s32 7 (sto 3), aI cI s33 60 (sre 3)] [oP z1 pf, oT y1 y2 tf, aC cC y2 60 ch, oL o o1 o2 o3 of, aI cI o1 3 ose, aI cI o2 7 oto, aI cI o3 60 ore, oK t1 kf] rfl) (q0 := 19) rfl rfl rfl rfl (Nat.le_of_ble_eq_true rfl) ⟨Nat.le_of_ble_eq_true rfl, Nat.le_of_ble_eq_true rfl⟩ ⟨Nat.zero_le _, Nat.zero_le _⟩ dX5_count_83 (fun r w1 H locs hw hP hD hS => ?_)
          obtain ⟨rfl, hw⟩ := hw
          subst hw
          have hP : va_P D vwCl [oX x0 h o t1 x1 y1 z1, oH x1 x2 hf, aL cL x2 (gS s0 s1 s2 s3), oL s0 s01 s02 s03 (sf 0), aI cI s01 3 (sse 0), aI cI s02 7 (sto 0), aI cI s03 60 (sre 0), oL s1 s11 s12 s13 (sf 1), aI cI s11 3 (sse 1), aI cI s12 7 (sto 1), aI cI s13 60 (sre 1), oL s2 s21 s22 s23 (sf 2), aI cI s21 3 (sse 2), aI cI s22 7 (sto 2), aI cI s23 60 (sre 2), oL s3 s31 s32 s33 (sf 3), aI cI s31 3 (sse 3), aI cI s32 7 (sto 3), aI cI s33 60 (sre 3), oL h h1 h2 h3 f, aI cI h1 3 se, aI cI h2 7 to, aI cI h3 60 re, oP z1 pf, oT y1 y2 tf, aC cC y2 60 ch, oL o o1 o2 o3 of, aI cI o1 3 ose, aI cI o2 7 oto, aI cI o3 60 ore, oK t1 kf] H := hP
          have hD : va_D A [oX x0 h o t1 x1 y1 z1, oH x1 x2 hf, aL cL x2 (gS s0 s1 s2 s3), oL s0 s01 s02 s03 (sf 0), aI cI s01 3 (sse 0), aI cI s02 7 (sto 0), aI cI s03 60 (sre 0), oL s1 s11 s12 s13 (sf 1), aI cI s11 3 (sse 1), aI cI s12 7 (sto 1), aI cI s13 60 (sre 1), oL s2 s21 s22 s23 (sf 2), aI cI s21 3 (sse 2), aI cI s22 7 (sto 2), aI cI s23 60 (sre 2), oL s3 s31 s32 s33 (sf 3), aI cI s31 3 (sse 3), aI cI s32 7 (sto 3), aI cI s33 60 (sre 3), oL h h1 h2 h3 f, aI cI h1 3 se, aI cI h2 7 to, aI cI h3 60 re, oP z1 pf, oT y1 y2 tf, aC cC y2 60 ch, oL o o1 o2 o3 of, aI cI o1 3 ose, aI cI o2 7 oto, aI cI o3 60 ore, oK t1 kf] := hD
          refine lv_isub hx hb dX5_count_86 ?_
          refine lv_iconst (v := 1) hx hb dX5_count_87 (by decide) ?_
          refine lv_iadd hx hb dX5_count_88 ?_
          exact ag_iret [x0, x1, x2, s0, s01, s02, s03, s1, s11, s12, s13, s2, s21, s22, s23, s3, s31, s32, s33, h, h1, h2, h3, z1, y1, y2, o, o1, o2, o3, t1] hx hb hr rfl hlocks hP hS rfl rfl ⟨(by unfold sr_X5_count; rw [if_neg c_1, if_pos c_7, if_pos c_23, if_pos c_46_7]), rfl⟩ dX5_count_89
        · by_cases c_46_8 : p1 = 8
          · refine lv_tableIn (off := 44) (tgt := 90) hx hb dX5_count_46 (by rw [c_46_8]; decide) (by rw [c_46_8]; decide) (by rw [c_46_8]; rfl) (by decide) ?_
            refine lv_aload_n hx hb dX5_count_90 rfl (lv_at hl 0 rfl) ?_
            refine ag_getX5 (v := .ref x1) hx hb hG hown hK hP 0 3 rfl (by decide) k_220 rfl dX5_count_91 ?_
            refine ag_getX0 (v := .int (hf 1)) hx hb hG hown hK hP 1 2 rfl (by decide) k_154 rfl dX5_count_94 ?_
            exact ag_iret [x0, x1, x2, s0, s01, s02, s03, s1, s11, s12, s13, s2, s21, s22, s23, s3, s31, s32, s33, h, h1, h2, h3, z1, y1, y2, o, o1, o2, o3, t1] hx hb hr rfl hlocks hP hS rfl rfl ⟨(by unfold sr_X5_count; rw [if_neg c_1, if_pos c_7, if_pos c_23, if_neg c_46_7, if_pos c_46_8]), rfl⟩ dX5_count_97
          · by_cases c_46_9 : p1 = 9
            · refine lv_tableIn (off := 52) (tgt := 98) hx hb dX5_count_46 (by rw [c_46_9]; decide) (by rw [c_46_9]; decide) (by rw [c_46_9]; rfl) (by decide) ?_
              refine lv_aload_n hx hb dX5_count_98 rfl (lv_at hl 0 rfl) ?_
              refine ag_getX5 (v := .ref y1) hx hb hG hown hK hP 0 4 rfl (by decide) k_221 rfl dX5_count_99 ?_
              refine ag_getX3 (v := .int (tf 0)) hx hb hG hown hK hP 24 1 rfl (by decide) k_171 rfl dX5_count_102 ?_
              exact ag_iret [x0, x1, x2, s0, s01, s02, s03, s1, s11, s12, s13, s2, s21, s22, s23, s3, s31, s32, s33, h, h1, h2, h3, z1, y1, y2, o, o1, o2, o3, t1] hx hb hr rfl hlocks hP hS rfl rfl ⟨(by unfold sr_X5_count; rw [if_neg c_1, if_pos c_7, if_pos c_23, if_neg c_46_7, if_neg c_46_8, if_pos c_46_9]), rfl⟩ dX5_count_105
            · refine lv_tableOut (tgt := 106) hx hb dX5_count_46 (by have h0 := lv_neT c_46_7 (a := 7) rfl; have h1 := lv_neT c_46_8 (a := 8) rfl; have h2 := lv_neT c_46_9 (a := 9) rfl; omega) (by decide) ?_
              refine lv_ldc (v := (-1000000001)) hx hb hown (hG _ k_259) dX5_count_106 ?_
              exact ag_iret [x0, x1, x2, s0, s01, s02, s03, s1, s11, s12, s13, s2, s21, s22, s23, s3, s31, s32, s33, h, h1, h2, h3, z1, y1, y2, o, o1, o2, o3, t1] hx hb hr rfl hlocks hP hS rfl rfl ⟨(by unfold sr_X5_count; rw [if_neg c_1, if_pos c_7, if_pos c_23, if_neg c_46_7, if_neg c_46_8, if_neg c_46_9]), rfl⟩ dX5_count_108
      · refine lv_iload_n hx hb dX5_count_26 rfl (lv_at hl 1 rfl) ?_
        refine lv_bipush (v := 23) hx hb dX5_count_27 (by decide) ?_
        refine lv_icmp_ge (tgt := 45) hx hb dX5_count_29 (by decide) (fun c_29 => ?_) (fun c_29 => ?_)
        · refine lv_iload_n hx hb dX5_count_45 rfl (lv_at hl 1 rfl) ?_
          by_cases c_46_7 : p1 = 7
          · refine lv_tableIn (off := 26) (tgt := 72) hx hb dX5_count_46 (by rw [c_46_7]; decide) (by rw [c_46_7]; decide) (by rw [c_46_7]; rfl) (by decide) ?_
            refine lv_aload_n hx hb dX5_count_72 rfl (lv_at hl 0 rfl) ?_
            refine ag_getX5 (v := .ref h) hx hb hG hown hK hP 0 0 rfl (by decide) k_217 rfl dX5_count_73 ?_
            refine ag_callVi (As := []) (rest := []) hx hb hml hown hG hK hN hA hP hD hS hl (ct_X1_lastDay l D cI cC cL h h1 h2 h3 f se to re) fX1_lastDay k_411 (ag_cut_1 [oX x0 h o t1 x1 y1 z1, oH x1 x2 hf, aL cL x2 (gS s0 s1 s2 s3), oL s0 s01 s02 s03 (sf 0), aI cI s01 3 (sse 0), aI cI s02 7 (sto 0), aI cI s03 60 (sre 0), oL s1 s11 s12 s13 (sf 1), aI cI s11 3 (sse 1), aI cI s12 7 (sto 1), aI cI s13 60 (sre 1), oL s2 s21 s22 s23 (sf 2), aI cI s21 3 (sse 2), aI cI s22 7 (sto 2), aI cI s23 60 (sre 2), oL s3 s31 s32 s33 (sf 3), aI cI s31 3 (sse 3), aI cI s32 7 (sto 3), aI cI s33 60 (sre 3)] [oP z1 pf, oT y1 y2 tf, aC cC y2 60 ch, oL o o1 o2 o3 of, aI cI o1 3 ose, aI cI o2 7 oto, aI cI o3 60 ore, oK t1 kf] rfl) (q0 := 19) rfl rfl rfl rfl (Nat.le_of_ble_eq_true rfl) ⟨Nat.le_of_ble_eq_true rfl, Nat.le_of_ble_eq_true rfl⟩ ⟨Nat.zero_le _, Nat.zero_le _⟩ dX5_count_76 (fun r w1 H locs hw hP hD hS => ?_)
            obtain ⟨rfl, hw⟩ := hw
            subst hw
            have hP : va_P D vwCl [oX x0 h o t1 x1 y1 z1, oH x1 x2 hf, aL cL x2 (gS s0 s1 s2 s3), oL s0 s01 s02 s03 (sf 0), aI cI s01 3 (sse 0), aI cI s02 7 (sto 0), aI cI s03 60 (sre 0), oL s1 s11 s12 s13 (sf 1), aI cI s11 3 (sse 1), aI cI s12 7 (sto 1), aI cI s13 60 (sre 1), oL s2 s21 s22 s23 (sf 2), aI cI s21 3 (sse 2), aI cI s22 7 (sto 2), aI cI s23 60 (sre 2), oL s3 s31 s32 s33 (sf 3), aI cI s31 3 (sse 3), aI cI s32 7 (sto 3), aI cI s33 60 (sre 3), oL h h1 h2 h3 f, aI cI h1 3 se, aI cI h2 7 to, aI cI h3 60 re, oP z1 pf, oT y1 y2 tf, aC cC y2 60 ch, oL o o1 o2 o3 of, aI cI o1 3 ose, aI cI o2 7 oto, aI cI o3 60 ore, oK t1 kf] H := hP
            have hD : va_D A [oX x0 h o t1 x1 y1 z1, oH x1 x2 hf, aL cL x2 (gS s0 s1 s2 s3), oL s0 s01 s02 s03 (sf 0), aI cI s01 3 (sse 0), aI cI s02 7 (sto 0), aI cI s03 60 (sre 0), oL s1 s11 s12 s13 (sf 1), aI cI s11 3 (sse 1), aI cI s12 7 (sto 1), aI cI s13 60 (sre 1), oL s2 s21 s22 s23 (sf 2), aI cI s21 3 (sse 2), aI cI s22 7 (sto 2), aI cI s23 60 (sre 2), oL s3 s31 s32 s33 (sf 3), aI cI s31 3 (sse 3), aI cI s32 7 (sto 3), aI cI s33 60 (sre 3), oL h h1 h2 h3 f, aI cI h1 3 se, aI cI h2 7 to, aI cI h3 60 re, oP z1 pf, oT y1 y2 tf, aC cC y2 60 ch, oL o o1 o2 o3 of, aI cI o1 3 ose, aI cI o2 7 oto, aI cI o3 60 ore, oK t1 kf] := hD
            refine lv_aload_n hx hb dX5_count_79 rfl (lv_at hl 0 rfl) ?_
            refine ag_getX5 (v := .ref h) hx hb hG hown hK hP 0 0 rfl (by decide) k_217 rfl dX5_count_80 ?_
            refine ag_callVi (As := []) (rest := [.int (sr_X1_lastDay f)]) hx hb hml hown hG hK hN hA hP hD hS hl (ct_X1_firstDay l D cI cC cL h h1 h2 h3 f se to re) fX1_firstDay k_400 (ag_cut_1 [oX x0 h o t1 x1 y1 z1, oH x1 x2 hf, aL cL x2 (gS s0 s1 s2 s3), oL s0 s01 s02 s03 (sf 0), aI cI s01 3 (sse 0), aI cI s02 7 (sto 0), aI cI s03 60 (sre 0), oL s1 s11 s12 s13 (sf 1), aI cI s11 3 (sse 1), aI cI s12 7 (sto 1), aI cI s13 60 (sre 1), oL s2 s21 s22 s23 (sf 2), aI cI s21 3 (sse 2), aI cI s22 7 (sto 2), aI cI s23 60 (sre 2), oL s3 s31 s32 s33 (sf 3), aI cI s31 3 (sse 3), aI cI s32 7 (sto 3), aI cI s33 60 (sre 3)] [oP z1 pf, oT y1 y2 tf, aC cC y2 60 ch, oL o o1 o2 o3 of, aI cI o1 3 ose, aI cI o2 7 oto, aI cI o3 60 ore, oK t1 kf] rfl) (q0 := 19) rfl rfl rfl rfl (Nat.le_of_ble_eq_true rfl) ⟨Nat.le_of_ble_eq_true rfl, Nat.le_of_ble_eq_true rfl⟩ ⟨Nat.zero_le _, Nat.zero_le _⟩ dX5_count_83 (fun r w1 H locs hw hP hD hS => ?_)
            obtain ⟨rfl, hw⟩ := hw
            subst hw
            have hP : va_P D vwCl [oX x0 h o t1 x1 y1 z1, oH x1 x2 hf, aL cL x2 (gS s0 s1 s2 s3), oL s0 s01 s02 s03 (sf 0), aI cI s01 3 (sse 0), aI cI s02 7 (sto 0), aI cI s03 60 (sre 0), oL s1 s11 s12 s13 (sf 1), aI cI s11 3 (sse 1), aI cI s12 7 (sto 1), aI cI s13 60 (sre 1), oL s2 s21 s22 s23 (sf 2), aI cI s21 3 (sse 2), aI cI s22 7 (sto 2), aI cI s23 60 (sre 2), oL s3 s31 s32 s33 (sf 3), aI cI s31 3 (sse 3), aI cI s32 7 (sto 3), aI cI s33 60 (sre 3), oL h h1 h2 h3 f, aI cI h1 3 se, aI cI h2 7 to, aI cI h3 60 re, oP z1 pf, oT y1 y2 tf, aC cC y2 60 ch, oL o o1 o2 o3 of, aI cI o1 3 ose, aI cI o2 7 oto, aI cI o3 60 ore, oK t1 kf] H := hP
            have hD : va_D A [oX x0 h o t1 x1 y1 z1, oH x1 x2 hf, aL cL x2 (gS s0 s1 s2 s3), oL s0 s01 s02 s03 (sf 0), aI cI s01 3 (sse 0), aI cI s02 7 (sto 0), aI cI s03 60 (sre 0), oL s1 s11 s12 s13 (sf 1), aI cI s11 3 (sse 1), aI cI s12 7 (sto 1), aI cI s13 60 (sre 1), oL s2 s21 s22 s23 (sf 2), aI cI s21 3 (sse 2), aI cI s22 7 (sto 2), aI cI s23 60 (sre 2), oL s3 s31 s32 s33 (sf 3), aI cI s31 3 (sse 3), aI cI s32 7 (sto 3), aI cI s33 60 (sre 3), oL h h1 h2 h3 f, aI cI h1 3 se, aI cI h2 7 to, aI cI h3 60 re, oP z1 pf, oT y1 y2 tf, aC cC y2 60 ch, oL o o1 o2 o3 of, aI cI o1 3 ose, aI cI o2 7 oto, aI cI o3 60 ore, oK t1 kf] := hD
            refine lv_isub hx hb dX5_count_86 ?_
            refine lv_iconst (v := 1) hx hb dX5_count_87 (by decide) ?_
            refine lv_iadd hx hb dX5_count_88 ?_
            exact ag_iret [x0, x1, x2, s0, s01, s02, s03, s1, s11, s12, s13, s2, s21, s22, s23, s3, s31, s32, s33, h, h1, h2, h3, z1, y1, y2, o, o1, o2, o3, t1] hx hb hr rfl hlocks hP hS rfl rfl ⟨(by unfold sr_X5_count; rw [if_neg c_1, if_pos c_7, if_neg c_23, if_pos c_29, if_pos c_46_7]), rfl⟩ dX5_count_89
          · by_cases c_46_8 : p1 = 8
            · refine lv_tableIn (off := 44) (tgt := 90) hx hb dX5_count_46 (by rw [c_46_8]; decide) (by rw [c_46_8]; decide) (by rw [c_46_8]; rfl) (by decide) ?_
              refine lv_aload_n hx hb dX5_count_90 rfl (lv_at hl 0 rfl) ?_
              refine ag_getX5 (v := .ref x1) hx hb hG hown hK hP 0 3 rfl (by decide) k_220 rfl dX5_count_91 ?_
              refine ag_getX0 (v := .int (hf 1)) hx hb hG hown hK hP 1 2 rfl (by decide) k_154 rfl dX5_count_94 ?_
              exact ag_iret [x0, x1, x2, s0, s01, s02, s03, s1, s11, s12, s13, s2, s21, s22, s23, s3, s31, s32, s33, h, h1, h2, h3, z1, y1, y2, o, o1, o2, o3, t1] hx hb hr rfl hlocks hP hS rfl rfl ⟨(by unfold sr_X5_count; rw [if_neg c_1, if_pos c_7, if_neg c_23, if_pos c_29, if_neg c_46_7, if_pos c_46_8]), rfl⟩ dX5_count_97
            · by_cases c_46_9 : p1 = 9
              · refine lv_tableIn (off := 52) (tgt := 98) hx hb dX5_count_46 (by rw [c_46_9]; decide) (by rw [c_46_9]; decide) (by rw [c_46_9]; rfl) (by decide) ?_
                refine lv_aload_n hx hb dX5_count_98 rfl (lv_at hl 0 rfl) ?_
                refine ag_getX5 (v := .ref y1) hx hb hG hown hK hP 0 4 rfl (by decide) k_221 rfl dX5_count_99 ?_
                refine ag_getX3 (v := .int (tf 0)) hx hb hG hown hK hP 24 1 rfl (by decide) k_171 rfl dX5_count_102 ?_
                exact ag_iret [x0, x1, x2, s0, s01, s02, s03, s1, s11, s12, s13, s2, s21, s22, s23, s3, s31, s32, s33, h, h1, h2, h3, z1, y1, y2, o, o1, o2, o3, t1] hx hb hr rfl hlocks hP hS rfl rfl ⟨(by unfold sr_X5_count; rw [if_neg c_1, if_pos c_7, if_neg c_23, if_pos c_29, if_neg c_46_7, if_neg c_46_8, if_pos c_46_9]), rfl⟩ dX5_count_105
              · refine lv_tableOut (tgt := 106) hx hb dX5_count_46 (by have h0 := lv_neT c_46_7 (a := 7) rfl; have h1 := lv_neT c_46_8 (a := 8) rfl; have h2 := lv_neT c_46_9 (a := 9) rfl; omega) (by decide) ?_
                refine lv_ldc (v := (-1000000001)) hx hb hown (hG _ k_259) dX5_count_106 ?_
                exact ag_iret [x0, x1, x2, s0, s01, s02, s03, s1, s11, s12, s13, s2, s21, s22, s23, s3, s31, s32, s33, h, h1, h2, h3, z1, y1, y2, o, o1, o2, o3, t1] hx hb hr rfl hlocks hP hS rfl rfl ⟨(by unfold sr_X5_count; rw [if_neg c_1, if_pos c_7, if_neg c_23, if_pos c_29, if_neg c_46_7, if_neg c_46_8, if_neg c_46_9]), rfl⟩ dX5_count_108
        · refine lv_aload_n hx hb dX5_count_32 rfl (lv_at hl 0 rfl) ?_
          refine ag_getX5 (v := .ref h) hx hb hG hown hK hP 0 0 rfl (by decide) k_217 rfl dX5_count_33 ?_
          refine ag_getX1 (v := .ref h1) hx hb hG hown hK hP 19 8 rfl (by decide) k_74 rfl dX5_count_36 ?_
          refine lv_iload_n hx hb dX5_count_39 rfl (lv_at hl 1 rfl) ?_
          refine lv_bipush (v := 20) hx hb dX5_count_40 (by decide) ?_
          refine lv_isub hx hb dX5_count_42 ?_
          refine ag_ild (k := (p1 - 20).toNatClampNeg) (v := se ((p1 - 20).toNatClampNeg)) hx hb hK hP 20 rfl (ag_cnt c_23 c_29).1 (ag_cnt c_23 c_29).2 (Nat.le_of_ble_eq_true rfl) rfl dX5_count_43 ?_
          exact ag_iret [x0, x1, x2, s0, s01, s02, s03, s1, s11, s12, s13, s2, s21, s22, s23, s3, s31, s32, s33, h, h1, h2, h3, z1, y1, y2, o, o1, o2, o3, t1] hx hb hr rfl hlocks hP hS rfl rfl ⟨(by unfold sr_X5_count; rw [if_neg c_1, if_pos c_7, if_neg c_23, if_neg c_29]), rfl⟩ dX5_count_44
    · refine lv_aload_n hx hb dX5_count_10 rfl (lv_at hl 0 rfl) ?_
      refine ag_getX5 (v := .ref h) hx hb hG hown hK hP 0 0 rfl (by decide) k_217 rfl dX5_count_11 ?_
      refine ag_getX1 (v := .ref h2) hx hb hG hown hK hP 19 9 rfl (by decide) k_76 rfl dX5_count_14 ?_
      refine lv_iload_n hx hb dX5_count_17 rfl (lv_at hl 1 rfl) ?_
      refine ag_ild (k := p1.toNatClampNeg) (v := to p1.toNatClampNeg) hx hb hK hP 21 rfl (ag_ixn (n := 7) (by decide) c_1 c_7).1 (ag_ixn (n := 7) (by decide) c_1 c_7).2 (Nat.le_of_ble_eq_true rfl) rfl dX5_count_18 ?_
      exact ag_iret [x0, x1, x2, s0, s01, s02, s03, s1, s11, s12, s13, s2, s21, s22, s23, s3, s31, s32, s33, h, h1, h2, h3, z1, y1, y2, o, o1, o2, o3, t1] hx hb hr rfl hlocks hP hS rfl rfl ⟨(by unfold sr_X5_count; rw [if_neg c_1, if_neg c_7]), rfl⟩ dX5_count_19
def sr_X5_clearText (tf : Nat → Int32) : Int32 := tf 0
def sw24_X5_clearText (tf : Nat → Int32) : Nat → Int32 := upd tf 0 0
abbrev po_X5_clearText (cI cC cL : ClassId) (x0 h o t1 x1 y1 z1 x2 s0 s01 s02 s03 s1 s11 s12 s13 s2 s21 s22 s23 s3 s31 s32 s33 h1 h2 h3 y2 o1 o2 o3 : Nat) (hf f se to re pf tf ch of ose oto ore kf : Nat → Int32) (sf : Nat → Nat → Int32) (sse : Nat → Nat → Int32) (sto : Nat → Nat → Int32) (sre : Nat → Nat → Int32) : Int32 → va_W → Prop := fun r w' => sr_X5_clearText tf = r ∧ [oX x0 h o t1 x1 y1 z1, oH x1 x2 hf, aL cL x2 (gS s0 s1 s2 s3), oL s0 s01 s02 s03 (sf 0), aI cI s01 3 (sse 0), aI cI s02 7 (sto 0), aI cI s03 60 (sre 0), oL s1 s11 s12 s13 (sf 1), aI cI s11 3 (sse 1), aI cI s12 7 (sto 1), aI cI s13 60 (sre 1), oL s2 s21 s22 s23 (sf 2), aI cI s21 3 (sse 2), aI cI s22 7 (sto 2), aI cI s23 60 (sre 2), oL s3 s31 s32 s33 (sf 3), aI cI s31 3 (sse 3), aI cI s32 7 (sto 3), aI cI s33 60 (sre 3), oL h h1 h2 h3 f, aI cI h1 3 se, aI cI h2 7 to, aI cI h3 60 re, oP z1 pf, oT y1 y2 (sw24_X5_clearText tf), aC cC y2 60 ch, oL o o1 o2 o3 of, aI cI o1 3 ose, aI cI o2 7 oto, aI cI o3 60 ore, oK t1 kf] = w'
set_option maxHeartbeats 4000000 in
set_option maxRecDepth 100000 in
theorem ct_X5_clearText (l : Launch) (D : va_G) (cI cC cL : ClassId) (x0 h o t1 x1 y1 z1 x2 s0 s01 s02 s03 s1 s11 s12 s13 s2 s21 s22 s23 s3 s31 s32 s33 h1 h2 h3 y2 o1 o2 o3 : Nat) (hf f se to re pf tf ch of ose oto ore kf : Nat → Int32) (sf : Nat → Nat → Int32) (sse : Nat → Nat → Int32) (sto : Nat → Nat → Int32) (sre : Nat → Nat → Int32) : ag_MI l yX5_clearText cX5_clearText 2 .int 0 0 D cI cC cL [.ref x0] [oX x0 h o t1 x1 y1 z1, oH x1 x2 hf, aL cL x2 (gS s0 s1 s2 s3), oL s0 s01 s02 s03 (sf 0), aI cI s01 3 (sse 0), aI cI s02 7 (sto 0), aI cI s03 60 (sre 0), oL s1 s11 s12 s13 (sf 1), aI cI s11 3 (sse 1), aI cI s12 7 (sto 1), aI cI s13 60 (sre 1), oL s2 s21 s22 s23 (sf 2), aI cI s21 3 (sse 2), aI cI s22 7 (sto 2), aI cI s23 60 (sre 2), oL s3 s31 s32 s33 (sf 3), aI cI s31 3 (sse 3), aI cI s32 7 (sto 3), aI cI s33 60 (sre 3), oL h h1 h2 h3 f, aI cI h1 3 se, aI cI h2 7 to, aI cI h3 60 re, oP z1 pf, oT y1 y2 tf, aC cC y2 60 ch, oL o o1 o2 o3 of, aI cI o1 3 ose, aI cI o2 7 oto, aI cI o3 60 ore, oK t1 kf] (po_X5_clearText cI cC cL x0 h o t1 x1 y1 z1 x2 s0 s01 s02 s03 s1 s11 s12 s13 s2 s21 s22 s23 s3 s31 s32 s33 h1 h2 h3 y2 o1 o2 o3 hf f se to re pf tf ch of ose oto ore kf sf sse sto sre) := by
  refine ag_MI.of (plainFor_of_name (by decide)) (Nat.le_of_ble_eq_true rfl) ?_
  intro p e s m below meth c hx hb hr hlocks hml hown hmn hG hK A hN hA H locs hP hD hS ls hl
  have hl : lv_has ls 2 [(0, .ref x0)] := hl
  refine lv_aload_n hx hb dX5_clearText_0 rfl (lv_at hl 0 rfl) ?_
  refine ag_getX5 (v := .ref y1) hx hb hG hown hK hP 0 4 rfl (by decide) k_221 rfl dX5_clearText_1 ?_
  refine ag_getX3 (v := .int (tf 0)) hx hb hG hown hK hP 24 1 rfl (by decide) k_171 rfl dX5_clearText_4 ?_
  refine lv_istore_n (lv' := [(1, .int (tf 0)), (0, .ref x0)]) hx hb dX5_clearText_7 rfl hl (by decide) rfl (fun ls hl => ?_)
  refine lv_aload_n hx hb dX5_clearText_8 rfl (lv_at hl 1 rfl) ?_
  refine ag_getX5 (v := .ref y1) hx hb hG hown hK hP 0 4 rfl (by decide) k_221 rfl dX5_clearText_9 ?_
  refine lv_iconst (v := 0) hx hb dX5_clearText_12 (by decide) ?_
  refine ag_putX3 hx hb hG hown hK hP hD hS 24 1 rfl (by decide) k_171 (by decide) rfl rfl (Nat.le_of_ble_eq_true rfl) dX5_clearText_13 (fun H locs hP hD hS => ?_)
  have hP : va_P D vwCl [oX x0 h o t1 x1 y1 z1, oH x1 x2 hf, aL cL x2 (gS s0 s1 s2 s3), oL s0 s01 s02 s03 (sf 0), aI cI s01 3 (sse 0), aI cI s02 7 (sto 0), aI cI s03 60 (sre 0), oL s1 s11 s12 s13 (sf 1), aI cI s11 3 (sse 1), aI cI s12 7 (sto 1), aI cI s13 60 (sre 1), oL s2 s21 s22 s23 (sf 2), aI cI s21 3 (sse 2), aI cI s22 7 (sto 2), aI cI s23 60 (sre 2), oL s3 s31 s32 s33 (sf 3), aI cI s31 3 (sse 3), aI cI s32 7 (sto 3), aI cI s33 60 (sre 3), oL h h1 h2 h3 f, aI cI h1 3 se, aI cI h2 7 to, aI cI h3 60 re, oP z1 pf, oT y1 y2 (upd tf 0 0), aC cC y2 60 ch, oL o o1 o2 o3 of, aI cI o1 3 ose, aI cI o2 7 oto, aI cI o3 60 ore, oK t1 kf] H := hP
  have hD : va_D A [oX x0 h o t1 x1 y1 z1, oH x1 x2 hf, aL cL x2 (gS s0 s1 s2 s3), oL s0 s01 s02 s03 (sf 0), aI cI s01 3 (sse 0), aI cI s02 7 (sto 0), aI cI s03 60 (sre 0), oL s1 s11 s12 s13 (sf 1), aI cI s11 3 (sse 1), aI cI s12 7 (sto 1), aI cI s13 60 (sre 1), oL s2 s21 s22 s23 (sf 2), aI cI s21 3 (sse 2), aI cI s22 7 (sto 2), aI cI s23 60 (sre 2), oL s3 s31 s32 s33 (sf 3), aI cI s31 3 (sse 3), aI cI s32 7 (sto 3), aI cI s33 60 (sre 3), oL h h1 h2 h3 f, aI cI h1 3 se, aI cI h2 7 to, aI cI h3 60 re, oP z1 pf, oT y1 y2 (upd tf 0 0), aC cC y2 60 ch, oL o o1 o2 o3 of, aI cI o1 3 ose, aI cI o2 7 oto, aI cI o3 60 ore, oK t1 kf] := hD
  refine lv_iload_n hx hb dX5_clearText_16 rfl (lv_at hl 0 rfl) ?_
  exact ag_iret [x0, x1, x2, s0, s01, s02, s03, s1, s11, s12, s13, s2, s21, s22, s23, s3, s31, s32, s33, h, h1, h2, h3, z1, y1, y2, o, o1, o2, o3, t1] hx hb hr rfl hlocks hP hS rfl rfl ⟨rfl, (by show _ = _; rw [show sw24_X5_clearText tf = upd tf 0 0 from rfl])⟩ dX5_clearText_17
def gv21_1_X5_undo (hf : Nat → Int32) : Nat → Int32 := gb_k hf
def gv21_2_X5_undo (hf : Nat → Int32) (f : Nat → Int32) (sf : Nat → Nat → Int32) : Nat → Int32 := gb_o hf sf f
def gv21_3_X5_undo (hf : Nat → Int32) (se : Nat → Int32) (sse : Nat → Nat → Int32) : Nat → Int32 := gb_o hf sse se
def gv21_4_X5_undo (hf : Nat → Int32) (to : Nat → Int32) (sto : Nat → Nat → Int32) : Nat → Int32 := gb_o hf sto to
def gv21_5_X5_undo (hf : Nat → Int32) (re : Nat → Int32) (sre : Nat → Nat → Int32) : Nat → Int32 := gb_o hf sre re
def sr_X5_undo (hf : Nat → Int32) : Int32 := if (hf 1) = 0 then (-1000000002) else (gv21_1_X5_undo hf) 1
def sw1_X5_undo (hf : Nat → Int32) : Nat → Int32 := if (hf 1) = 0 then hf else (gv21_1_X5_undo hf)
def sw19_X5_undo (hf : Nat → Int32) (f : Nat → Int32) (sf : Nat → Nat → Int32) : Nat → Int32 := if (hf 1) = 0 then f else (gv21_2_X5_undo hf f sf)
def sw20_X5_undo (hf : Nat → Int32) (se : Nat → Int32) (sse : Nat → Nat → Int32) : Nat → Int32 := if (hf 1) = 0 then se else (gv21_3_X5_undo hf se sse)
def sw21_X5_undo (hf : Nat → Int32) (to : Nat → Int32) (sto : Nat → Nat → Int32) : Nat → Int32 := if (hf 1) = 0 then to else (gv21_4_X5_undo hf to sto)
def sw22_X5_undo (hf : Nat → Int32) (re : Nat → Int32) (sre : Nat → Nat → Int32) : Nat → Int32 := if (hf 1) = 0 then re else (gv21_5_X5_undo hf re sre)
abbrev po_X5_undo (cI cC cL : ClassId) (x0 h o t1 x1 y1 z1 x2 s0 s01 s02 s03 s1 s11 s12 s13 s2 s21 s22 s23 s3 s31 s32 s33 h1 h2 h3 y2 o1 o2 o3 : Nat) (hf f se to re pf tf ch of ose oto ore kf : Nat → Int32) (sf : Nat → Nat → Int32) (sse : Nat → Nat → Int32) (sto : Nat → Nat → Int32) (sre : Nat → Nat → Int32) : Int32 → va_W → Prop := fun r w' => sr_X5_undo hf = r ∧ [oX x0 h o t1 x1 y1 z1, oH x1 x2 (sw1_X5_undo hf), aL cL x2 (gS s0 s1 s2 s3), oL s0 s01 s02 s03 (sf 0), aI cI s01 3 (sse 0), aI cI s02 7 (sto 0), aI cI s03 60 (sre 0), oL s1 s11 s12 s13 (sf 1), aI cI s11 3 (sse 1), aI cI s12 7 (sto 1), aI cI s13 60 (sre 1), oL s2 s21 s22 s23 (sf 2), aI cI s21 3 (sse 2), aI cI s22 7 (sto 2), aI cI s23 60 (sre 2), oL s3 s31 s32 s33 (sf 3), aI cI s31 3 (sse 3), aI cI s32 7 (sto 3), aI cI s33 60 (sre 3), oL h h1 h2 h3 (sw19_X5_undo hf f sf), aI cI h1 3 (sw20_X5_undo hf se sse), aI cI h2 7 (sw21_X5_undo hf to sto), aI cI h3 60 (sw22_X5_undo hf re sre), oP z1 pf, oT y1 y2 tf, aC cC y2 60 ch, oL o o1 o2 o3 of, aI cI o1 3 ose, aI cI o2 7 oto, aI cI o3 60 ore, oK t1 kf] = w'
set_option maxHeartbeats 4000000 in
set_option maxRecDepth 100000 in
theorem ct_X5_undo (l : Launch) (D : va_G) (cI cC cL : ClassId) (x0 h o t1 x1 y1 z1 x2 s0 s01 s02 s03 s1 s11 s12 s13 s2 s21 s22 s23 s3 s31 s32 s33 h1 h2 h3 y2 o1 o2 o3 : Nat) (hf f se to re pf tf ch of ose oto ore kf : Nat → Int32) (sf : Nat → Nat → Int32) (sse : Nat → Nat → Int32) (sto : Nat → Nat → Int32) (sre : Nat → Nat → Int32) : ag_MI l yX5_undo cX5_undo 1 .int 3 72 D cI cC cL [.ref x0] [oX x0 h o t1 x1 y1 z1, oH x1 x2 hf, aL cL x2 (gS s0 s1 s2 s3), oL s0 s01 s02 s03 (sf 0), aI cI s01 3 (sse 0), aI cI s02 7 (sto 0), aI cI s03 60 (sre 0), oL s1 s11 s12 s13 (sf 1), aI cI s11 3 (sse 1), aI cI s12 7 (sto 1), aI cI s13 60 (sre 1), oL s2 s21 s22 s23 (sf 2), aI cI s21 3 (sse 2), aI cI s22 7 (sto 2), aI cI s23 60 (sre 2), oL s3 s31 s32 s33 (sf 3), aI cI s31 3 (sse 3), aI cI s32 7 (sto 3), aI cI s33 60 (sre 3), oL h h1 h2 h3 f, aI cI h1 3 se, aI cI h2 7 to, aI cI h3 60 re, oP z1 pf, oT y1 y2 tf, aC cC y2 60 ch, oL o o1 o2 o3 of, aI cI o1 3 ose, aI cI o2 7 oto, aI cI o3 60 ore, oK t1 kf] (po_X5_undo cI cC cL x0 h o t1 x1 y1 z1 x2 s0 s01 s02 s03 s1 s11 s12 s13 s2 s21 s22 s23 s3 s31 s32 s33 h1 h2 h3 y2 o1 o2 o3 hf f se to re pf tf ch of ose oto ore kf sf sse sto sre) := by
  refine ag_MI.of (plainFor_of_name (by decide)) (Nat.le_of_ble_eq_true rfl) ?_
  intro p e s m below meth c hx hb hr hlocks hml hown hmn hG hK A hN hA H locs hP hD hS ls hl
  have hl : lv_has ls 1 [(0, .ref x0)] := hl
  refine lv_aload_n hx hb dX5_undo_0 rfl (lv_at hl 0 rfl) ?_
  refine ag_getX5 (v := .ref x1) hx hb hG hown hK hP 0 3 rfl (by decide) k_220 rfl dX5_undo_1 ?_
  refine ag_getX0 (v := .int (hf 1)) hx hb hG hown hK hP 1 2 rfl (by decide) k_154 rfl dX5_undo_4 ?_
  refine lv_if_ne (tgt := 13) hx hb dX5_undo_7 (by decide) (fun c_7 => ?_) (fun c_7 => ?_)
  · refine lv_aload_n hx hb dX5_undo_13 rfl (lv_at hl 0 rfl) ?_
    refine ag_getX5 (v := .ref x1) hx hb hG hown hK hP 0 3 rfl (by decide) k_220 rfl dX5_undo_14 ?_
    refine lv_aload_n hx hb dX5_undo_17 rfl (lv_at hl 0 rfl) ?_
    refine ag_getX5 (v := .ref h) hx hb hG hown hK hP 0 0 rfl (by decide) k_217 rfl dX5_undo_18 ?_
    refine ag_callVv (As := [.ref h]) (rest := []) hx hb hml hown hG hK hN hA hP hD hS hl (ct_X0_giveBack l D cI cC cL x1 h x2 s0 s01 s02 s03 s1 s11 s12 s13 s2 s21 s22 s23 s3 s31 s32 s33 h1 h2 h3 hf f se to re sf sse sto sre) fX0_giveBack k_471 (ag_cut_1 [oX x0 h o t1 x1 y1 z1] [oP z1 pf, oT y1 y2 tf, aC cC y2 60 ch, oL o o1 o2 o3 of, aI cI o1 3 ose, aI cI o2 7 oto, aI cI o3 60 ore, oK t1 kf] rfl) (q0 := 1) rfl rfl rfl rfl (Nat.le_of_ble_eq_true rfl) ⟨Nat.le_of_ble_eq_true rfl, Nat.le_of_ble_eq_true rfl⟩ ⟨Nat.zero_le _, Nat.zero_le _⟩ dX5_undo_21 (fun w1 H locs hw hP hD hS => ?_)
    have hw : _ = w1 := hw
    generalize eg21_1 : gb_k hf = g21_1 at hw
    replace eg21_1 : gv21_1_X5_undo hf = g21_1 := (by rw [← eg21_1]; rfl)
    generalize eg21_2 : gb_o hf sf f = g21_2 at hw
    replace eg21_2 : gv21_2_X5_undo hf f sf = g21_2 := (by rw [← eg21_2]; rfl)
    generalize eg21_3 : gb_o hf sse se = g21_3 at hw
    replace eg21_3 : gv21_3_X5_undo hf se sse = g21_3 := (by rw [← eg21_3]; rfl)
    generalize eg21_4 : gb_o hf sto to = g21_4 at hw
    replace eg21_4 : gv21_4_X5_undo hf to sto = g21_4 := (by rw [← eg21_4]; rfl)
    generalize eg21_5 : gb_o hf sre re = g21_5 at hw
    replace eg21_5 : gv21_5_X5_undo hf re sre = g21_5 := (by rw [← eg21_5]; rfl)
    subst hw
    have hP : va_P D vwCl [oX x0 h o t1 x1 y1 z1, oH x1 x2 g21_1, aL cL x2 (gS s0 s1 s2 s3), oL s0 s01 s02 s03 (sf 0), aI cI s01 3 (sse 0), aI cI s02 7 (sto 0), aI cI s03 60 (sre 0), oL s1 s11 s12 s13 (sf 1), aI cI s11 3 (sse 1), aI cI s12 7 (sto 1), aI cI s13 60 (sre 1), oL s2 s21 s22 s23 (sf 2), aI cI s21 3 (sse 2), aI cI s22 7 (sto 2), aI cI s23 60 (sre 2), oL s3 s31 s32 s33 (sf 3), aI cI s31 3 (sse 3), aI cI s32 7 (sto 3), aI cI s33 60 (sre 3), oL h h1 h2 h3 g21_2, aI cI h1 3 g21_3, aI cI h2 7 g21_4, aI cI h3 60 g21_5, oP z1 pf, oT y1 y2 tf, aC cC y2 60 ch, oL o o1 o2 o3 of, aI cI o1 3 ose, aI cI o2 7 oto, aI cI o3 60 ore, oK t1 kf] H := hP
    have hD : va_D A [oX x0 h o t1 x1 y1 z1, oH x1 x2 g21_1, aL cL x2 (gS s0 s1 s2 s3), oL s0 s01 s02 s03 (sf 0), aI cI s01 3 (sse 0), aI cI s02 7 (sto 0), aI cI s03 60 (sre 0), oL s1 s11 s12 s13 (sf 1), aI cI s11 3 (sse 1), aI cI s12 7 (sto 1), aI cI s13 60 (sre 1), oL s2 s21 s22 s23 (sf 2), aI cI s21 3 (sse 2), aI cI s22 7 (sto 2), aI cI s23 60 (sre 2), oL s3 s31 s32 s33 (sf 3), aI cI s31 3 (sse 3), aI cI s32 7 (sto 3), aI cI s33 60 (sre 3), oL h h1 h2 h3 g21_2, aI cI h1 3 g21_3, aI cI h2 7 g21_4, aI cI h3 60 g21_5, oP z1 pf, oT y1 y2 tf, aC cC y2 60 ch, oL o o1 o2 o3 of, aI cI o1 3 ose, aI cI o2 7 oto, aI cI o3 60 ore, oK t1 kf] := hD
    refine lv_aload_n hx hb dX5_undo_24 rfl (lv_at hl 0 rfl) ?_
    refine ag_getX5 (v := .ref x1) hx hb hG hown hK hP 0 3 rfl (by decide) k_220 rfl dX5_undo_25 ?_
    refine ag_getX0 (v := .int (g21_1 1)) hx hb hG hown hK hP 1 2 rfl (by decide) k_154 rfl dX5_undo_28 ?_
    revert hP; revert hD; revert hS; revert hl
    subst eg21_5
    subst eg21_4
    subst eg21_3
    subst eg21_2
    subst eg21_1
    intro hl hS hD hP
    exact ag_iret [x0, x1, x2, s0, s01, s02, s03, s1, s11, s12, s13, s2, s21, s22, s23, s3, s31, s32, s33, h, h1, h2, h3, z1, y1, y2, o, o1, o2, o3, t1] hx hb hr rfl hlocks hP hS rfl rfl ⟨(by unfold sr_X5_undo; rw [if_neg c_7]), (by show _ = _; rw [show sw1_X5_undo hf = (gv21_1_X5_undo hf) from (by unfold sw1_X5_undo; rw [if_neg c_7]), show sw19_X5_undo hf f sf = (gv21_2_X5_undo hf f sf) from (by unfold sw19_X5_undo; rw [if_neg c_7]), show sw20_X5_undo hf se sse = (gv21_3_X5_undo hf se sse) from (by unfold sw20_X5_undo; rw [if_neg c_7]), show sw21_X5_undo hf to sto = (gv21_4_X5_undo hf to sto) from (by unfold sw21_X5_undo; rw [if_neg c_7]), show sw22_X5_undo hf re sre = (gv21_5_X5_undo hf re sre) from (by unfold sw22_X5_undo; rw [if_neg c_7])])⟩ dX5_undo_31
  · refine lv_ldc (v := (-1000000002)) hx hb hown (hG _ k_470) dX5_undo_10 ?_
    exact ag_iret [x0, x1, x2, s0, s01, s02, s03, s1, s11, s12, s13, s2, s21, s22, s23, s3, s31, s32, s33, h, h1, h2, h3, z1, y1, y2, o, o1, o2, o3, t1] hx hb hr rfl hlocks hP hS rfl rfl ⟨(by unfold sr_X5_undo; rw [if_pos c_7]), (by show _ = _; rw [show sw1_X5_undo hf = hf from (by unfold sw1_X5_undo; rw [if_pos c_7]), show sw19_X5_undo hf f sf = f from (by unfold sw19_X5_undo; rw [if_pos c_7]), show sw20_X5_undo hf se sse = se from (by unfold sw20_X5_undo; rw [if_pos c_7]), show sw21_X5_undo hf to sto = to from (by unfold sw21_X5_undo; rw [if_pos c_7]), show sw22_X5_undo hf re sre = re from (by unfold sw22_X5_undo; rw [if_pos c_7])])⟩ dX5_undo_12
def xv26_1_X3_append (tf : Nat → Int32) : Int32 := (tf 0) + 1
def sw0_X3_append (tf : Nat → Int32) : Nat → Int32 := if 60 ≤ (tf 0) then tf else upd tf 0 (xv26_1_X3_append tf)
def sw1_X3_append (tf : Nat → Int32) (ch : Nat → Int32) (p1 : Int32) : Nat → Int32 := if 60 ≤ (tf 0) then ch else upd ch ((tf 0).toNatClampNeg) p1
abbrev po_X3_append (cI cC cL : ClassId) (y1 y2 : Nat) (tf ch : Nat → Int32) (p1 : Int32) (hc : vp_nar .char p1 = p1) (h0 : ¬ tf 0 < 0) : va_W → Prop := fun w' => [oT y1 y2 (sw0_X3_append tf), aC cC y2 60 (sw1_X3_append tf ch p1)] = w'
set_option maxHeartbeats 4000000 in
set_option maxRecDepth 100000 in
theorem ct_X3_append (l : Launch) (D : va_G) (cI cC cL : ClassId) (y1 y2 : Nat) (tf ch : Nat → Int32) (p1 : Int32) (hc : vp_nar .char p1 = p1) (h0 : ¬ tf 0 < 0) : ag_MV l yX3_append cX3_append 2 0 0 D cI cC cL [.ref y1, .int p1] [oT y1 y2 tf, aC cC y2 60 ch] (po_X3_append cI cC cL y1 y2 tf ch p1 hc h0) := by
  refine ag_MV.of (plainFor_of_name (by decide)) (Nat.le_of_ble_eq_true rfl) ?_
  intro p e s m below meth c hx hb hr hlocks hml hown hmn hG hK A hN hA H locs hP hD hS ls hl
  have hl : lv_has ls 2 [(0, .ref y1), (1, .int p1)] := hl
  refine lv_aload_n hx hb dX3_append_0 rfl (lv_at hl 0 rfl) ?_
  refine ag_getX3 (v := .int (tf 0)) hx hb hG hown hK hP 0 1 rfl (by decide) k_169 rfl dX3_append_1 ?_
  refine lv_bipush (v := 60) hx hb dX3_append_4 (by decide) ?_
  refine lv_icmp_ge (tgt := 29) hx hb dX3_append_6 (by decide) (fun c_6 => ?_) (fun c_6 => ?_)
  · exact ag_vret [y1, y2] hx hb hr hlocks hP hS rfl rfl (by show _ = _; rw [show sw0_X3_append tf = tf from (by unfold sw0_X3_append; rw [if_pos c_6]), show sw1_X3_append tf ch p1 = ch from (by unfold sw1_X3_append; rw [if_pos c_6])]) dX3_append_29
  · refine lv_aload_n hx hb dX3_append_9 rfl (lv_at hl 0 rfl) ?_
    refine ag_getX3 (v := .ref y2) hx hb hG hown hK hP 0 0 rfl (by decide) k_168 rfl dX3_append_10 ?_
    refine lv_aload_n hx hb dX3_append_13 rfl (lv_at hl 0 rfl) ?_
    refine ag_getX3 (v := .int (tf 0)) hx hb hG hown hK hP 0 1 rfl (by decide) k_169 rfl dX3_append_14 ?_
    refine lv_iload_n hx hb dX3_append_17 rfl (lv_at hl 1 rfl) ?_
    refine ag_cst (k := (tf 0).toNatClampNeg) hx hb hK hP hD hS 1 rfl (ag_ixn (n := 60) (by decide) h0 c_6).1 (ag_ixn (n := 60) (by decide) h0 c_6).2 (Nat.le_of_ble_eq_true rfl) hc dX3_append_18 (fun H locs hP hD hS => ?_)
    have hP : va_P D vwCl [oT y1 y2 tf, aC cC y2 60 (upd ch ((tf 0).toNatClampNeg) p1)] H := hP
    have hD : va_D A [oT y1 y2 tf, aC cC y2 60 (upd ch ((tf 0).toNatClampNeg) p1)] := hD
    refine lv_aload_n hx hb dX3_append_19 rfl (lv_at hl 0 rfl) ?_
    refine lv_dup hx hb dX3_append_20 rfl ?_
    refine ag_getX3 (v := .int (tf 0)) hx hb hG hown hK hP 0 1 rfl (by decide) k_169 rfl dX3_append_21 ?_
    refine lv_iconst (v := 1) hx hb dX3_append_24 (by decide) ?_
    refine lv_iadd hx hb dX3_append_25 ?_
    refine ag_topn (v := xv26_1_X3_append tf) rfl (fun x26_1 ex26_1 => ?_)
    refine ag_putX3 hx hb hG hown hK hP hD hS 0 1 rfl (by decide) k_169 (by decide) rfl rfl (Nat.le_of_ble_eq_true rfl) dX3_append_26 (fun H locs hP hD hS => ?_)
    have hP : va_P D vwCl [oT y1 y2 (upd tf 0 x26_1), aC cC y2 60 (upd ch ((tf 0).toNatClampNeg) p1)] H := hP
    have hD : va_D A [oT y1 y2 (upd tf 0 x26_1), aC cC y2 60 (upd ch ((tf 0).toNatClampNeg) p1)] := hD
    revert hP; revert hD; revert hS; revert hl
    subst ex26_1
    intro hl hS hD hP
    exact ag_vret [y1, y2] hx hb hr hlocks hP hS rfl rfl (by show _ = _; rw [show sw0_X3_append tf = upd tf 0 (xv26_1_X3_append tf) from (by unfold sw0_X3_append; rw [if_neg c_6]), show sw1_X3_append tf ch p1 = upd ch ((tf 0).toNatClampNeg) p1 from (by unfold sw1_X3_append; rw [if_neg c_6])]) dX3_append_29
def gv36_1_X5_type (tf : Nat → Int32) : Nat → Int32 := sw0_X3_append tf
def gv36_2_X5_type (tf : Nat → Int32) (ch : Nat → Int32) (p1 : Int32) : Nat → Int32 := sw1_X3_append tf ch p1
def sr_X5_type (tf : Nat → Int32) (p1 : Int32) : Int32 := if p1 < 32 then (-1000000001) else if p1 ≤ 126 then if (tf 0) < 60 then (gv36_1_X5_type tf) 0 else (-1000000003) else (-1000000001)
def sw24_X5_type (tf : Nat → Int32) (p1 : Int32) : Nat → Int32 := if p1 < 32 then tf else if p1 ≤ 126 then if (tf 0) < 60 then (gv36_1_X5_type tf) else tf else tf
def sw25_X5_type (tf : Nat → Int32) (ch : Nat → Int32) (p1 : Int32) : Nat → Int32 := if p1 < 32 then ch else if p1 ≤ 126 then if (tf 0) < 60 then (gv36_2_X5_type tf ch p1) else ch else ch
abbrev po_X5_type (cI cC cL : ClassId) (x0 h o t1 x1 y1 z1 x2 s0 s01 s02 s03 s1 s11 s12 s13 s2 s21 s22 s23 s3 s31 s32 s33 h1 h2 h3 y2 o1 o2 o3 : Nat) (hf f se to re pf tf ch of ose oto ore kf : Nat → Int32) (p1 : Int32) (sf : Nat → Nat → Int32) (sse : Nat → Nat → Int32) (sto : Nat → Nat → Int32) (sre : Nat → Nat → Int32) (h0 : ¬ tf 0 < 0) : Int32 → va_W → Prop := fun r w' => sr_X5_type tf p1 = r ∧ [oX x0 h o t1 x1 y1 z1, oH x1 x2 hf, aL cL x2 (gS s0 s1 s2 s3), oL s0 s01 s02 s03 (sf 0), aI cI s01 3 (sse 0), aI cI s02 7 (sto 0), aI cI s03 60 (sre 0), oL s1 s11 s12 s13 (sf 1), aI cI s11 3 (sse 1), aI cI s12 7 (sto 1), aI cI s13 60 (sre 1), oL s2 s21 s22 s23 (sf 2), aI cI s21 3 (sse 2), aI cI s22 7 (sto 2), aI cI s23 60 (sre 2), oL s3 s31 s32 s33 (sf 3), aI cI s31 3 (sse 3), aI cI s32 7 (sto 3), aI cI s33 60 (sre 3), oL h h1 h2 h3 f, aI cI h1 3 se, aI cI h2 7 to, aI cI h3 60 re, oP z1 pf, oT y1 y2 (sw24_X5_type tf p1), aC cC y2 60 (sw25_X5_type tf ch p1), oL o o1 o2 o3 of, aI cI o1 3 ose, aI cI o2 7 oto, aI cI o3 60 ore, oK t1 kf] = w'
set_option maxHeartbeats 4000000 in
set_option maxRecDepth 100000 in
theorem ct_X5_type (l : Launch) (D : va_G) (cI cC cL : ClassId) (x0 h o t1 x1 y1 z1 x2 s0 s01 s02 s03 s1 s11 s12 s13 s2 s21 s22 s23 s3 s31 s32 s33 h1 h2 h3 y2 o1 o2 o3 : Nat) (hf f se to re pf tf ch of ose oto ore kf : Nat → Int32) (p1 : Int32) (sf : Nat → Nat → Int32) (sse : Nat → Nat → Int32) (sto : Nat → Nat → Int32) (sre : Nat → Nat → Int32) (h0 : ¬ tf 0 < 0) : ag_MI l yX5_type cX5_type 2 .int 1 21 D cI cC cL [.ref x0, .int p1] [oX x0 h o t1 x1 y1 z1, oH x1 x2 hf, aL cL x2 (gS s0 s1 s2 s3), oL s0 s01 s02 s03 (sf 0), aI cI s01 3 (sse 0), aI cI s02 7 (sto 0), aI cI s03 60 (sre 0), oL s1 s11 s12 s13 (sf 1), aI cI s11 3 (sse 1), aI cI s12 7 (sto 1), aI cI s13 60 (sre 1), oL s2 s21 s22 s23 (sf 2), aI cI s21 3 (sse 2), aI cI s22 7 (sto 2), aI cI s23 60 (sre 2), oL s3 s31 s32 s33 (sf 3), aI cI s31 3 (sse 3), aI cI s32 7 (sto 3), aI cI s33 60 (sre 3), oL h h1 h2 h3 f, aI cI h1 3 se, aI cI h2 7 to, aI cI h3 60 re, oP z1 pf, oT y1 y2 tf, aC cC y2 60 ch, oL o o1 o2 o3 of, aI cI o1 3 ose, aI cI o2 7 oto, aI cI o3 60 ore, oK t1 kf] (po_X5_type cI cC cL x0 h o t1 x1 y1 z1 x2 s0 s01 s02 s03 s1 s11 s12 s13 s2 s21 s22 s23 s3 s31 s32 s33 h1 h2 h3 y2 o1 o2 o3 hf f se to re pf tf ch of ose oto ore kf p1 sf sse sto sre h0) := by
  refine ag_MI.of (plainFor_of_name (by decide)) (Nat.le_of_ble_eq_true rfl) ?_
  intro p e s m below meth c hx hb hr hlocks hml hown hmn hG hK A hN hA H locs hP hD hS ls hl
  have hl : lv_has ls 2 [(0, .ref x0), (1, .int p1)] := hl
  refine lv_iload_n hx hb dX5_type_0 rfl (lv_at hl 1 rfl) ?_
  refine lv_bipush (v := 32) hx hb dX5_type_1 (by decide) ?_
  refine lv_icmp_lt (tgt := 12) hx hb dX5_type_3 (by decide) (fun c_3 => ?_) (fun c_3 => ?_)
  · refine lv_ldc (v := (-1000000001)) hx hb hown (hG _ k_259) dX5_type_12 ?_
    exact ag_iret [x0, x1, x2, s0, s01, s02, s03, s1, s11, s12, s13, s2, s21, s22, s23, s3, s31, s32, s33, h, h1, h2, h3, z1, y1, y2, o, o1, o2, o3, t1] hx hb hr rfl hlocks hP hS rfl rfl ⟨(by unfold sr_X5_type; rw [if_pos c_3]), (by show _ = _; rw [show sw24_X5_type tf p1 = tf from (by unfold sw24_X5_type; rw [if_pos c_3]), show sw25_X5_type tf ch p1 = ch from (by unfold sw25_X5_type; rw [if_pos c_3])])⟩ dX5_type_14
  · refine lv_iload_n hx hb dX5_type_6 rfl (lv_at hl 1 rfl) ?_
    refine lv_bipush (v := 126) hx hb dX5_type_7 (by decide) ?_
    refine lv_icmp_le (tgt := 15) hx hb dX5_type_9 (by decide) (fun c_9 => ?_) (fun c_9 => ?_)
    · refine lv_aload_n hx hb dX5_type_15 rfl (lv_at hl 0 rfl) ?_
      refine ag_getX5 (v := .ref y1) hx hb hG hown hK hP 0 4 rfl (by decide) k_221 rfl dX5_type_16 ?_
      refine ag_getX3 (v := .int (tf 0)) hx hb hG hown hK hP 24 1 rfl (by decide) k_171 rfl dX5_type_19 ?_
      refine lv_bipush (v := 60) hx hb dX5_type_22 (by decide) ?_
      refine lv_icmp_lt (tgt := 30) hx hb dX5_type_24 (by decide) (fun c_24 => ?_) (fun c_24 => ?_)
      · refine lv_aload_n hx hb dX5_type_30 rfl (lv_at hl 0 rfl) ?_
        refine ag_getX5 (v := .ref y1) hx hb hG hown hK hP 0 4 rfl (by decide) k_221 rfl dX5_type_31 ?_
        refine lv_iload_n hx hb dX5_type_34 rfl (lv_at hl 1 rfl) ?_
        refine lv_i2c (v := p1) hx hb dX5_type_35 (ag_i2c c_3 c_9).1 ?_
        refine ag_callVv (As := [.int p1]) (rest := []) hx hb hml hown hG hK hN hA hP hD hS hl (ct_X3_append l D cI cC cL y1 y2 tf ch p1 ((ag_i2c c_3 c_9).2.1) h0) fX3_append k_480 (ag_cut_1 [oX x0 h o t1 x1 y1 z1, oH x1 x2 hf, aL cL x2 (gS s0 s1 s2 s3), oL s0 s01 s02 s03 (sf 0), aI cI s01 3 (sse 0), aI cI s02 7 (sto 0), aI cI s03 60 (sre 0), oL s1 s11 s12 s13 (sf 1), aI cI s11 3 (sse 1), aI cI s12 7 (sto 1), aI cI s13 60 (sre 1), oL s2 s21 s22 s23 (sf 2), aI cI s21 3 (sse 2), aI cI s22 7 (sto 2), aI cI s23 60 (sre 2), oL s3 s31 s32 s33 (sf 3), aI cI s31 3 (sse 3), aI cI s32 7 (sto 3), aI cI s33 60 (sre 3), oL h h1 h2 h3 f, aI cI h1 3 se, aI cI h2 7 to, aI cI h3 60 re, oP z1 pf] [oL o o1 o2 o3 of, aI cI o1 3 ose, aI cI o2 7 oto, aI cI o3 60 ore, oK t1 kf] rfl) (q0 := 24) rfl rfl rfl rfl (Nat.le_of_ble_eq_true rfl) ⟨Nat.le_of_ble_eq_true rfl, Nat.le_of_ble_eq_true rfl⟩ ⟨Nat.zero_le _, Nat.zero_le _⟩ dX5_type_36 (fun w1 H locs hw hP hD hS => ?_)
        have hw : _ = w1 := hw
        generalize eg36_1 : sw0_X3_append tf = g36_1 at hw
        replace eg36_1 : gv36_1_X5_type tf = g36_1 := (by rw [← eg36_1]; rfl)
        generalize eg36_2 : sw1_X3_append tf ch p1 = g36_2 at hw
        replace eg36_2 : gv36_2_X5_type tf ch p1 = g36_2 := (by rw [← eg36_2]; rfl)
        subst hw
        have hP : va_P D vwCl [oX x0 h o t1 x1 y1 z1, oH x1 x2 hf, aL cL x2 (gS s0 s1 s2 s3), oL s0 s01 s02 s03 (sf 0), aI cI s01 3 (sse 0), aI cI s02 7 (sto 0), aI cI s03 60 (sre 0), oL s1 s11 s12 s13 (sf 1), aI cI s11 3 (sse 1), aI cI s12 7 (sto 1), aI cI s13 60 (sre 1), oL s2 s21 s22 s23 (sf 2), aI cI s21 3 (sse 2), aI cI s22 7 (sto 2), aI cI s23 60 (sre 2), oL s3 s31 s32 s33 (sf 3), aI cI s31 3 (sse 3), aI cI s32 7 (sto 3), aI cI s33 60 (sre 3), oL h h1 h2 h3 f, aI cI h1 3 se, aI cI h2 7 to, aI cI h3 60 re, oP z1 pf, oT y1 y2 g36_1, aC cC y2 60 g36_2, oL o o1 o2 o3 of, aI cI o1 3 ose, aI cI o2 7 oto, aI cI o3 60 ore, oK t1 kf] H := hP
        have hD : va_D A [oX x0 h o t1 x1 y1 z1, oH x1 x2 hf, aL cL x2 (gS s0 s1 s2 s3), oL s0 s01 s02 s03 (sf 0), aI cI s01 3 (sse 0), aI cI s02 7 (sto 0), aI cI s03 60 (sre 0), oL s1 s11 s12 s13 (sf 1), aI cI s11 3 (sse 1), aI cI s12 7 (sto 1), aI cI s13 60 (sre 1), oL s2 s21 s22 s23 (sf 2), aI cI s21 3 (sse 2), aI cI s22 7 (sto 2), aI cI s23 60 (sre 2), oL s3 s31 s32 s33 (sf 3), aI cI s31 3 (sse 3), aI cI s32 7 (sto 3), aI cI s33 60 (sre 3), oL h h1 h2 h3 f, aI cI h1 3 se, aI cI h2 7 to, aI cI h3 60 re, oP z1 pf, oT y1 y2 g36_1, aC cC y2 60 g36_2, oL o o1 o2 o3 of, aI cI o1 3 ose, aI cI o2 7 oto, aI cI o3 60 ore, oK t1 kf] := hD
        refine lv_aload_n hx hb dX5_type_39 rfl (lv_at hl 0 rfl) ?_
        refine ag_getX5 (v := .ref y1) hx hb hG hown hK hP 0 4 rfl (by decide) k_221 rfl dX5_type_40 ?_
        refine ag_getX3 (v := .int (g36_1 0)) hx hb hG hown hK hP 24 1 rfl (by decide) k_171 rfl dX5_type_43 ?_
        revert hP; revert hD; revert hS; revert hl
        subst eg36_2
        subst eg36_1
        intro hl hS hD hP
        exact ag_iret [x0, x1, x2, s0, s01, s02, s03, s1, s11, s12, s13, s2, s21, s22, s23, s3, s31, s32, s33, h, h1, h2, h3, z1, y1, y2, o, o1, o2, o3, t1] hx hb hr rfl hlocks hP hS rfl rfl ⟨(by unfold sr_X5_type; rw [if_neg c_3, if_pos c_9, if_pos c_24]), (by show _ = _; rw [show sw24_X5_type tf p1 = (gv36_1_X5_type tf) from (by unfold sw24_X5_type; rw [if_neg c_3, if_pos c_9, if_pos c_24]), show sw25_X5_type tf ch p1 = (gv36_2_X5_type tf ch p1) from (by unfold sw25_X5_type; rw [if_neg c_3, if_pos c_9, if_pos c_24])])⟩ dX5_type_46
      · refine lv_ldc (v := (-1000000003)) hx hb hown (hG _ k_479) dX5_type_27 ?_
        exact ag_iret [x0, x1, x2, s0, s01, s02, s03, s1, s11, s12, s13, s2, s21, s22, s23, s3, s31, s32, s33, h, h1, h2, h3, z1, y1, y2, o, o1, o2, o3, t1] hx hb hr rfl hlocks hP hS rfl rfl ⟨(by unfold sr_X5_type; rw [if_neg c_3, if_pos c_9, if_neg c_24]), (by show _ = _; rw [show sw24_X5_type tf p1 = tf from (by unfold sw24_X5_type; rw [if_neg c_3, if_pos c_9, if_neg c_24]), show sw25_X5_type tf ch p1 = ch from (by unfold sw25_X5_type; rw [if_neg c_3, if_pos c_9, if_neg c_24])])⟩ dX5_type_29
    · refine lv_ldc (v := (-1000000001)) hx hb hown (hG _ k_259) dX5_type_12 ?_
      exact ag_iret [x0, x1, x2, s0, s01, s02, s03, s1, s11, s12, s13, s2, s21, s22, s23, s3, s31, s32, s33, h, h1, h2, h3, z1, y1, y2, o, o1, o2, o3, t1] hx hb hr rfl hlocks hP hS rfl rfl ⟨(by unfold sr_X5_type; rw [if_neg c_3, if_neg c_9]), (by show _ = _; rw [show sw24_X5_type tf p1 = tf from (by unfold sw24_X5_type; rw [if_neg c_3, if_neg c_9]), show sw25_X5_type tf ch p1 = ch from (by unfold sw25_X5_type; rw [if_neg c_3, if_neg c_9])])⟩ dX5_type_14
