/-! the class itself: reads -/
def sr_X5_now (f : Nat → Int32) (p1 : Int32) : Int32 := if p1 = 0 then f 0 else if p1 = 1 then (f 0) / 144 else if p1 = 2 then (f 0) - (f 0) / 144 * 144 else if p1 = 3 then sr_X5_seaLevel (f 0) else if p1 = 4 then sr_X1_level f else if p1 = 5 then sr_X1_head f else if p1 = 6 then f 1 else if p1 = 7 then f 2 else if p1 = 8 then f 3 else if p1 = 9 then f 4 else if p1 = 10 then f 5 else if p1 = 11 then if (sr_X1_isBirdHour f) = 0 then 0 else 1 else if p1 = 12 then sr_X5_tideHeight ((f 0) / 144) else (-1000000001)
abbrev po_X5_now (cI cC cL : ClassId) (x0 h o t1 x1 y1 z1 x2 s0 s01 s02 s03 s1 s11 s12 s13 s2 s21 s22 s23 s3 s31 s32 s33 h1 h2 h3 y2 o1 o2 o3 : Nat) (hf f se to re pf tf ch of ose oto ore kf : Nat → Int32) (p1 : Int32) (sf : Nat → Nat → Int32) (sse : Nat → Nat → Int32) (sto : Nat → Nat → Int32) (sre : Nat → Nat → Int32) : Int32 → va_W → Prop := fun r w' => sr_X5_now f p1 = r ∧ [oX x0 h o t1 x1 y1 z1, oH x1 x2 hf, aL cL x2 (gS s0 s1 s2 s3), oL s0 s01 s02 s03 (sf 0), aI cI s01 3 (sse 0), aI cI s02 7 (sto 0), aI cI s03 60 (sre 0), oL s1 s11 s12 s13 (sf 1), aI cI s11 3 (sse 1), aI cI s12 7 (sto 1), aI cI s13 60 (sre 1), oL s2 s21 s22 s23 (sf 2), aI cI s21 3 (sse 2), aI cI s22 7 (sto 2), aI cI s23 60 (sre 2), oL s3 s31 s32 s33 (sf 3), aI cI s31 3 (sse 3), aI cI s32 7 (sto 3), aI cI s33 60 (sre 3), oL h h1 h2 h3 f, aI cI h1 3 se, aI cI h2 7 to, aI cI h3 60 re, oP z1 pf, oT y1 y2 tf, aC cC y2 60 ch, oL o o1 o2 o3 of, aI cI o1 3 ose, aI cI o2 7 oto, aI cI o3 60 ore, oK t1 kf] = w'
set_option maxHeartbeats 4000000 in
set_option maxRecDepth 100000 in
theorem ct_X5_now (l : Launch) (D : va_G) (cI cC cL : ClassId) (x0 h o t1 x1 y1 z1 x2 s0 s01 s02 s03 s1 s11 s12 s13 s2 s21 s22 s23 s3 s31 s32 s33 h1 h2 h3 y2 o1 o2 o3 : Nat) (hf f se to re pf tf ch of ose oto ore kf : Nat → Int32) (p1 : Int32) (sf : Nat → Nat → Int32) (sse : Nat → Nat → Int32) (sto : Nat → Nat → Int32) (sre : Nat → Nat → Int32) : ag_MI l yX5_now cX5_now 2 .int 3 63 D cI cC cL [.ref x0, .int p1] [oX x0 h o t1 x1 y1 z1, oH x1 x2 hf, aL cL x2 (gS s0 s1 s2 s3), oL s0 s01 s02 s03 (sf 0), aI cI s01 3 (sse 0), aI cI s02 7 (sto 0), aI cI s03 60 (sre 0), oL s1 s11 s12 s13 (sf 1), aI cI s11 3 (sse 1), aI cI s12 7 (sto 1), aI cI s13 60 (sre 1), oL s2 s21 s22 s23 (sf 2), aI cI s21 3 (sse 2), aI cI s22 7 (sto 2), aI cI s23 60 (sre 2), oL s3 s31 s32 s33 (sf 3), aI cI s31 3 (sse 3), aI cI s32 7 (sto 3), aI cI s33 60 (sre 3), oL h h1 h2 h3 f, aI cI h1 3 se, aI cI h2 7 to, aI cI h3 60 re, oP z1 pf, oT y1 y2 tf, aC cC y2 60 ch, oL o o1 o2 o3 of, aI cI o1 3 ose, aI cI o2 7 oto, aI cI o3 60 ore, oK t1 kf] (po_X5_now cI cC cL x0 h o t1 x1 y1 z1 x2 s0 s01 s02 s03 s1 s11 s12 s13 s2 s21 s22 s23 s3 s31 s32 s33 h1 h2 h3 y2 o1 o2 o3 hf f se to re pf tf ch of ose oto ore kf p1 sf sse sto sre) := by
  refine ag_MI.of (plainFor_of_name (by decide)) (Nat.le_of_ble_eq_true rfl) ?_
  intro p e s m below meth c hx hb hr hlocks hml hown hmn hG hK A hN hA H locs hP hD hS ls hl
  have hl : lv_has ls 2 [(0, .ref x0), (1, .int p1)] := hl
  refine lv_iload_n hx hb dX5_now_0 rfl (lv_at hl 1 rfl) ?_
  by_cases c_1_0 : p1 = 0
  · refine lv_tableIn (off := 67) (tgt := 68) hx hb dX5_now_1 (by rw [c_1_0]; decide) (by rw [c_1_0]; decide) (by rw [c_1_0]; rfl) (by decide) ?_
    refine lv_aload_n hx hb dX5_now_68 rfl (lv_at hl 0 rfl) ?_
    refine ag_getX5 (v := .ref h) hx hb hG hown hK hP 0 0 rfl (by decide) k_176 rfl dX5_now_69 ?_
    refine ag_getX1 (v := .int (f 0)) hx hb hG hown hK hP 19 0 rfl (by decide) k_31 rfl dX5_now_72 ?_
    exact ag_iret [x0, x1, x2, s0, s01, s02, s03, s1, s11, s12, s13, s2, s21, s22, s23, s3, s31, s32, s33, h, h1, h2, h3, z1, y1, y2, o, o1, o2, o3, t1] hx hb hr rfl hlocks hP hS rfl rfl ⟨(by unfold sr_X5_now; rw [if_pos c_1_0]), rfl⟩ dX5_now_75
  · by_cases c_1_1 : p1 = 1
    · refine lv_tableIn (off := 75) (tgt := 76) hx hb dX5_now_1 (by rw [c_1_1]; decide) (by rw [c_1_1]; decide) (by rw [c_1_1]; rfl) (by decide) ?_
      refine lv_aload_n hx hb dX5_now_76 rfl (lv_at hl 0 rfl) ?_
      refine ag_getX5 (v := .ref h) hx hb hG hown hK hP 0 0 rfl (by decide) k_176 rfl dX5_now_77 ?_
      refine ag_getX1 (v := .int (f 0)) hx hb hG hown hK hP 19 0 rfl (by decide) k_31 rfl dX5_now_80 ?_
      refine lv_sipush (v := 144) hx hb dX5_now_83 (by decide) ?_
      refine lv_idiv hx hb dX5_now_86 (by decide) ?_
      exact ag_iret [x0, x1, x2, s0, s01, s02, s03, s1, s11, s12, s13, s2, s21, s22, s23, s3, s31, s32, s33, h, h1, h2, h3, z1, y1, y2, o, o1, o2, o3, t1] hx hb hr rfl hlocks hP hS rfl rfl ⟨(by unfold sr_X5_now; rw [if_neg c_1_0, if_pos c_1_1]), rfl⟩ dX5_now_87
    · by_cases c_1_2 : p1 = 2
      · refine lv_tableIn (off := 87) (tgt := 88) hx hb dX5_now_1 (by rw [c_1_2]; decide) (by rw [c_1_2]; decide) (by rw [c_1_2]; rfl) (by decide) ?_
        refine lv_aload_n hx hb dX5_now_88 rfl (lv_at hl 0 rfl) ?_
        refine ag_getX5 (v := .ref h) hx hb hG hown hK hP 0 0 rfl (by decide) k_176 rfl dX5_now_89 ?_
        refine ag_getX1 (v := .int (f 0)) hx hb hG hown hK hP 19 0 rfl (by decide) k_31 rfl dX5_now_92 ?_
        refine lv_sipush (v := 144) hx hb dX5_now_95 (by decide) ?_
        refine lv_irem hx hb dX5_now_98 (by decide) ?_
        exact ag_iret [x0, x1, x2, s0, s01, s02, s03, s1, s11, s12, s13, s2, s21, s22, s23, s3, s31, s32, s33, h, h1, h2, h3, z1, y1, y2, o, o1, o2, o3, t1] hx hb hr rfl hlocks hP hS rfl rfl ⟨(by unfold sr_X5_now; rw [if_neg c_1_0, if_neg c_1_1, if_pos c_1_2]), rfl⟩ dX5_now_99
      · by_cases c_1_3 : p1 = 3
        · refine lv_tableIn (off := 99) (tgt := 100) hx hb dX5_now_1 (by rw [c_1_3]; decide) (by rw [c_1_3]; decide) (by rw [c_1_3]; rfl) (by decide) ?_
          refine lv_aload_n hx hb dX5_now_100 rfl (lv_at hl 0 rfl) ?_
          refine ag_getX5 (v := .ref h) hx hb hG hown hK hP 0 0 rfl (by decide) k_176 rfl dX5_now_101 ?_
          refine ag_getX1 (v := .int (f 0)) hx hb hG hown hK hP 19 0 rfl (by decide) k_31 rfl dX5_now_104 ?_
          refine ag_callSi (As := [.int (f 0)]) (rest := []) hx hb hml hown hG hK hN hA hP hD hS hl (ct_X5_seaLevel l D cI cC cL (f 0)) fX5_seaLevel k_199 ag_cut_0 rfl (Nat.le_of_ble_eq_true rfl) ⟨Nat.le_of_ble_eq_true rfl, Nat.le_of_ble_eq_true rfl⟩ ⟨Nat.zero_le _, Nat.zero_le _⟩ dX5_now_107 (fun r w1 H locs hw hP hD hS => ?_)
          obtain ⟨rfl, hw⟩ := hw
          subst hw
          have hP : va_P D vwCl [oX x0 h o t1 x1 y1 z1, oH x1 x2 hf, aL cL x2 (gS s0 s1 s2 s3), oL s0 s01 s02 s03 (sf 0), aI cI s01 3 (sse 0), aI cI s02 7 (sto 0), aI cI s03 60 (sre 0), oL s1 s11 s12 s13 (sf 1), aI cI s11 3 (sse 1), aI cI s12 7 (sto 1), aI cI s13 60 (sre 1), oL s2 s21 s22 s23 (sf 2), aI cI s21 3 (sse 2), aI cI s22 7 (sto 2), aI cI s23 60 (sre 2), oL s3 s31 s32 s33 (sf 3), aI cI s31 3 (sse 3), aI cI s32 7 (sto 3), aI cI s33 60 (sre 3), oL h h1 h2 h3 f, aI cI h1 3 se, aI cI h2 7 to, aI cI h3 60 re, oP z1 pf, oT y1 y2 tf, aC cC y2 60 ch, oL o o1 o2 o3 of, aI cI o1 3 ose, aI cI o2 7 oto, aI cI o3 60 ore, oK t1 kf] H := hP
          have hD : va_D A [oX x0 h o t1 x1 y1 z1, oH x1 x2 hf, aL cL x2 (gS s0 s1 s2 s3), oL s0 s01 s02 s03 (sf 0), aI cI s01 3 (sse 0), aI cI s02 7 (sto 0), aI cI s03 60 (sre 0), oL s1 s11 s12 s13 (sf 1), aI cI s11 3 (sse 1), aI cI s12 7 (sto 1), aI cI s13 60 (sre 1), oL s2 s21 s22 s23 (sf 2), aI cI s21 3 (sse 2), aI cI s22 7 (sto 2), aI cI s23 60 (sre 2), oL s3 s31 s32 s33 (sf 3), aI cI s31 3 (sse 3), aI cI s32 7 (sto 3), aI cI s33 60 (sre 3), oL h h1 h2 h3 f, aI cI h1 3 se, aI cI h2 7 to, aI cI h3 60 re, oP z1 pf, oT y1 y2 tf, aC cC y2 60 ch, oL o o1 o2 o3 of, aI cI o1 3 ose, aI cI o2 7 oto, aI cI o3 60 ore, oK t1 kf] := hD
          exact ag_iret [x0, x1, x2, s0, s01, s02, s03, s1, s11, s12, s13, s2, s21, s22, s23, s3, s31, s32, s33, h, h1, h2, h3, z1, y1, y2, o, o1, o2, o3, t1] hx hb hr rfl hlocks hP hS rfl rfl ⟨(by unfold sr_X5_now; rw [if_neg c_1_0, if_neg c_1_1, if_neg c_1_2, if_pos c_1_3]), rfl⟩ dX5_now_110
        · by_cases c_1_4 : p1 = 4
          · refine lv_tableIn (off := 110) (tgt := 111) hx hb dX5_now_1 (by rw [c_1_4]; decide) (by rw [c_1_4]; decide) (by rw [c_1_4]; rfl) (by decide) ?_
            refine lv_aload_n hx hb dX5_now_111 rfl (lv_at hl 0 rfl) ?_
            refine ag_getX5 (v := .ref h) hx hb hG hown hK hP 0 0 rfl (by decide) k_176 rfl dX5_now_112 ?_
            refine ag_callVi (As := []) (rest := []) hx hb hml hown hG hK hN hA hP hD hS hl (ct_X1_level l D cI cC cL h h1 h2 h3 f se to re) fX1_level k_205 (ag_cut_1 [oX x0 h o t1 x1 y1 z1, oH x1 x2 hf, aL cL x2 (gS s0 s1 s2 s3), oL s0 s01 s02 s03 (sf 0), aI cI s01 3 (sse 0), aI cI s02 7 (sto 0), aI cI s03 60 (sre 0), oL s1 s11 s12 s13 (sf 1), aI cI s11 3 (sse 1), aI cI s12 7 (sto 1), aI cI s13 60 (sre 1), oL s2 s21 s22 s23 (sf 2), aI cI s21 3 (sse 2), aI cI s22 7 (sto 2), aI cI s23 60 (sre 2), oL s3 s31 s32 s33 (sf 3), aI cI s31 3 (sse 3), aI cI s32 7 (sto 3), aI cI s33 60 (sre 3)] [oP z1 pf, oT y1 y2 tf, aC cC y2 60 ch, oL o o1 o2 o3 of, aI cI o1 3 ose, aI cI o2 7 oto, aI cI o3 60 ore, oK t1 kf] rfl) (q0 := 19) rfl rfl rfl rfl (Nat.le_of_ble_eq_true rfl) ⟨Nat.le_of_ble_eq_true rfl, Nat.le_of_ble_eq_true rfl⟩ ⟨Nat.zero_le _, Nat.zero_le _⟩ dX5_now_115 (fun r w1 H locs hw hP hD hS => ?_)
            obtain ⟨rfl, hw⟩ := hw
            subst hw
            have hP : va_P D vwCl [oX x0 h o t1 x1 y1 z1, oH x1 x2 hf, aL cL x2 (gS s0 s1 s2 s3), oL s0 s01 s02 s03 (sf 0), aI cI s01 3 (sse 0), aI cI s02 7 (sto 0), aI cI s03 60 (sre 0), oL s1 s11 s12 s13 (sf 1), aI cI s11 3 (sse 1), aI cI s12 7 (sto 1), aI cI s13 60 (sre 1), oL s2 s21 s22 s23 (sf 2), aI cI s21 3 (sse 2), aI cI s22 7 (sto 2), aI cI s23 60 (sre 2), oL s3 s31 s32 s33 (sf 3), aI cI s31 3 (sse 3), aI cI s32 7 (sto 3), aI cI s33 60 (sre 3), oL h h1 h2 h3 f, aI cI h1 3 se, aI cI h2 7 to, aI cI h3 60 re, oP z1 pf, oT y1 y2 tf, aC cC y2 60 ch, oL o o1 o2 o3 of, aI cI o1 3 ose, aI cI o2 7 oto, aI cI o3 60 ore, oK t1 kf] H := hP
            have hD : va_D A [oX x0 h o t1 x1 y1 z1, oH x1 x2 hf, aL cL x2 (gS s0 s1 s2 s3), oL s0 s01 s02 s03 (sf 0), aI cI s01 3 (sse 0), aI cI s02 7 (sto 0), aI cI s03 60 (sre 0), oL s1 s11 s12 s13 (sf 1), aI cI s11 3 (sse 1), aI cI s12 7 (sto 1), aI cI s13 60 (sre 1), oL s2 s21 s22 s23 (sf 2), aI cI s21 3 (sse 2), aI cI s22 7 (sto 2), aI cI s23 60 (sre 2), oL s3 s31 s32 s33 (sf 3), aI cI s31 3 (sse 3), aI cI s32 7 (sto 3), aI cI s33 60 (sre 3), oL h h1 h2 h3 f, aI cI h1 3 se, aI cI h2 7 to, aI cI h3 60 re, oP z1 pf, oT y1 y2 tf, aC cC y2 60 ch, oL o o1 o2 o3 of, aI cI o1 3 ose, aI cI o2 7 oto, aI cI o3 60 ore, oK t1 kf] := hD
            exact ag_iret [x0, x1, x2, s0, s01, s02, s03, s1, s11, s12, s13, s2, s21, s22, s23, s3, s31, s32, s33, h, h1, h2, h3, z1, y1, y2, o, o1, o2, o3, t1] hx hb hr rfl hlocks hP hS rfl rfl ⟨(by unfold sr_X5_now; rw [if_neg c_1_0, if_neg c_1_1, if_neg c_1_2, if_neg c_1_3, if_pos c_1_4]), rfl⟩ dX5_now_118
          · by_cases c_1_5 : p1 = 5
            · refine lv_tableIn (off := 118) (tgt := 119) hx hb dX5_now_1 (by rw [c_1_5]; decide) (by rw [c_1_5]; decide) (by rw [c_1_5]; rfl) (by decide) ?_
              refine lv_aload_n hx hb dX5_now_119 rfl (lv_at hl 0 rfl) ?_
              refine ag_getX5 (v := .ref h) hx hb hG hown hK hP 0 0 rfl (by decide) k_176 rfl dX5_now_120 ?_
              refine ag_callVi (As := []) (rest := []) hx hb hml hown hG hK hN hA hP hD hS hl (ct_X1_head l D cI cC cL h h1 h2 h3 f se to re) fX1_head k_209 (ag_cut_1 [oX x0 h o t1 x1 y1 z1, oH x1 x2 hf, aL cL x2 (gS s0 s1 s2 s3), oL s0 s01 s02 s03 (sf 0), aI cI s01 3 (sse 0), aI cI s02 7 (sto 0), aI cI s03 60 (sre 0), oL s1 s11 s12 s13 (sf 1), aI cI s11 3 (sse 1), aI cI s12 7 (sto 1), aI cI s13 60 (sre 1), oL s2 s21 s22 s23 (sf 2), aI cI s21 3 (sse 2), aI cI s22 7 (sto 2), aI cI s23 60 (sre 2), oL s3 s31 s32 s33 (sf 3), aI cI s31 3 (sse 3), aI cI s32 7 (sto 3), aI cI s33 60 (sre 3)] [oP z1 pf, oT y1 y2 tf, aC cC y2 60 ch, oL o o1 o2 o3 of, aI cI o1 3 ose, aI cI o2 7 oto, aI cI o3 60 ore, oK t1 kf] rfl) (q0 := 19) rfl rfl rfl rfl (Nat.le_of_ble_eq_true rfl) ⟨Nat.le_of_ble_eq_true rfl, Nat.le_of_ble_eq_true rfl⟩ ⟨Nat.zero_le _, Nat.zero_le _⟩ dX5_now_123 (fun r w1 H locs hw hP hD hS => ?_)
              obtain ⟨rfl, hw⟩ := hw
              subst hw
              have hP : va_P D vwCl [oX x0 h o t1 x1 y1 z1, oH x1 x2 hf, aL cL x2 (gS s0 s1 s2 s3), oL s0 s01 s02 s03 (sf 0), aI cI s01 3 (sse 0), aI cI s02 7 (sto 0), aI cI s03 60 (sre 0), oL s1 s11 s12 s13 (sf 1), aI cI s11 3 (sse 1), aI cI s12 7 (sto 1), aI cI s13 60 (sre 1), oL s2 s21 s22 s23 (sf 2), aI cI s21 3 (sse 2), aI cI s22 7 (sto 2), aI cI s23 60 (sre 2), oL s3 s31 s32 s33 (sf 3), aI cI s31 3 (sse 3), aI cI s32 7 (sto 3), aI cI s33 60 (sre 3), oL h h1 h2 h3 f, aI cI h1 3 se, aI cI h2 7 to, aI cI h3 60 re, oP z1 pf, oT y1 y2 tf, aC cC y2 60 ch, oL o o1 o2 o3 of, aI cI o1 3 ose, aI cI o2 7 oto, aI cI o3 60 ore, oK t1 kf] H := hP
              have hD : va_D A [oX x0 h o t1 x1 y1 z1, oH x1 x2 hf, aL cL x2 (gS s0 s1 s2 s3), oL s0 s01 s02 s03 (sf 0), aI cI s01 3 (sse 0), aI cI s02 7 (sto 0), aI cI s03 60 (sre 0), oL s1 s11 s12 s13 (sf 1), aI cI s11 3 (sse 1), aI cI s12 7 (sto 1), aI cI s13 60 (sre 1), oL s2 s21 s22 s23 (sf 2), aI cI s21 3 (sse 2), aI cI s22 7 (sto 2), aI cI s23 60 (sre 2), oL s3 s31 s32 s33 (sf 3), aI cI s31 3 (sse 3), aI cI s32 7 (sto 3), aI cI s33 60 (sre 3), oL h h1 h2 h3 f, aI cI h1 3 se, aI cI h2 7 to, aI cI h3 60 re, oP z1 pf, oT y1 y2 tf, aC cC y2 60 ch, oL o o1 o2 o3 of, aI cI o1 3 ose, aI cI o2 7 oto, aI cI o3 60 ore, oK t1 kf] := hD
              exact ag_iret [x0, x1, x2, s0, s01, s02, s03, s1, s11, s12, s13, s2, s21, s22, s23, s3, s31, s32, s33, h, h1, h2, h3, z1, y1, y2, o, o1, o2, o3, t1] hx hb hr rfl hlocks hP hS rfl rfl ⟨(by unfold sr_X5_now; rw [if_neg c_1_0, if_neg c_1_1, if_neg c_1_2, if_neg c_1_3, if_neg c_1_4, if_pos c_1_5]), rfl⟩ dX5_now_126
            · by_cases c_1_6 : p1 = 6
              · refine lv_tableIn (off := 126) (tgt := 127) hx hb dX5_now_1 (by rw [c_1_6]; decide) (by rw [c_1_6]; decide) (by rw [c_1_6]; rfl) (by decide) ?_
                refine lv_aload_n hx hb dX5_now_127 rfl (lv_at hl 0 rfl) ?_
                refine ag_getX5 (v := .ref h) hx hb hG hown hK hP 0 0 rfl (by decide) k_176 rfl dX5_now_128 ?_
                refine ag_getX1 (v := .int (f 1)) hx hb hG hown hK hP 19 1 rfl (by decide) k_34 rfl dX5_now_131 ?_
                exact ag_iret [x0, x1, x2, s0, s01, s02, s03, s1, s11, s12, s13, s2, s21, s22, s23, s3, s31, s32, s33, h, h1, h2, h3, z1, y1, y2, o, o1, o2, o3, t1] hx hb hr rfl hlocks hP hS rfl rfl ⟨(by unfold sr_X5_now; rw [if_neg c_1_0, if_neg c_1_1, if_neg c_1_2, if_neg c_1_3, if_neg c_1_4, if_neg c_1_5, if_pos c_1_6]), rfl⟩ dX5_now_134
              · by_cases c_1_7 : p1 = 7
                · refine lv_tableIn (off := 134) (tgt := 135) hx hb dX5_now_1 (by rw [c_1_7]; decide) (by rw [c_1_7]; decide) (by rw [c_1_7]; rfl) (by decide) ?_
                  refine lv_aload_n hx hb dX5_now_135 rfl (lv_at hl 0 rfl) ?_
                  refine ag_getX5 (v := .ref h) hx hb hG hown hK hP 0 0 rfl (by decide) k_176 rfl dX5_now_136 ?_
                  refine ag_getX1 (v := .int (f 2)) hx hb hG hown hK hP 19 2 rfl (by decide) k_37 rfl dX5_now_139 ?_
                  exact ag_iret [x0, x1, x2, s0, s01, s02, s03, s1, s11, s12, s13, s2, s21, s22, s23, s3, s31, s32, s33, h, h1, h2, h3, z1, y1, y2, o, o1, o2, o3, t1] hx hb hr rfl hlocks hP hS rfl rfl ⟨(by unfold sr_X5_now; rw [if_neg c_1_0, if_neg c_1_1, if_neg c_1_2, if_neg c_1_3, if_neg c_1_4, if_neg c_1_5, if_neg c_1_6, if_pos c_1_7]), rfl⟩ dX5_now_142
                · by_cases c_1_8 : p1 = 8
                  · refine lv_tableIn (off := 142) (tgt := 143) hx hb dX5_now_1 (by rw [c_1_8]; decide) (by rw [c_1_8]; decide) (by rw [c_1_8]; rfl) (by decide) ?_
                    refine lv_aload_n hx hb dX5_now_143 rfl (lv_at hl 0 rfl) ?_
                    refine ag_getX5 (v := .ref h) hx hb hG hown hK hP 0 0 rfl (by decide) k_176 rfl dX5_now_144 ?_
                    refine ag_getX1 (v := .int (f 3)) hx hb hG hown hK hP 19 3 rfl (by decide) k_40 rfl dX5_now_147 ?_
                    exact ag_iret [x0, x1, x2, s0, s01, s02, s03, s1, s11, s12, s13, s2, s21, s22, s23, s3, s31, s32, s33, h, h1, h2, h3, z1, y1, y2, o, o1, o2, o3, t1] hx hb hr rfl hlocks hP hS rfl rfl ⟨(by unfold sr_X5_now; rw [if_neg c_1_0, if_neg c_1_1, if_neg c_1_2, if_neg c_1_3, if_neg c_1_4, if_neg c_1_5, if_neg c_1_6, if_neg c_1_7, if_pos c_1_8]), rfl⟩ dX5_now_150
                  · by_cases c_1_9 : p1 = 9
                    · refine lv_tableIn (off := 150) (tgt := 151) hx hb dX5_now_1 (by rw [c_1_9]; decide) (by rw [c_1_9]; decide) (by rw [c_1_9]; rfl) (by decide) ?_
                      refine lv_aload_n hx hb dX5_now_151 rfl (lv_at hl 0 rfl) ?_
                      refine ag_getX5 (v := .ref h) hx hb hG hown hK hP 0 0 rfl (by decide) k_176 rfl dX5_now_152 ?_
                      refine ag_getX1 (v := .int (f 4)) hx hb hG hown hK hP 19 4 rfl (by decide) k_43 rfl dX5_now_155 ?_
                      exact ag_iret [x0, x1, x2, s0, s01, s02, s03, s1, s11, s12, s13, s2, s21, s22, s23, s3, s31, s32, s33, h, h1, h2, h3, z1, y1, y2, o, o1, o2, o3, t1] hx hb hr rfl hlocks hP hS rfl rfl ⟨(by unfold sr_X5_now; rw [if_neg c_1_0, if_neg c_1_1, if_neg c_1_2, if_neg c_1_3, if_neg c_1_4, if_neg c_1_5, if_neg c_1_6, if_neg c_1_7, if_neg c_1_8, if_pos c_1_9]), rfl⟩ dX5_now_158
                    · by_cases c_1_10 : p1 = 10
                      · refine lv_tableIn (off := 158) (tgt := 159) hx hb dX5_now_1 (by rw [c_1_10]; decide) (by rw [c_1_10]; decide) (by rw [c_1_10]; rfl) (by decide) ?_
                        refine lv_aload_n hx hb dX5_now_159 rfl (lv_at hl 0 rfl) ?_
                        refine ag_getX5 (v := .ref h) hx hb hG hown hK hP 0 0 rfl (by decide) k_176 rfl dX5_now_160 ?_
                        refine ag_getX1 (v := .int (f 5)) hx hb hG hown hK hP 19 5 rfl (by decide) k_46 rfl dX5_now_163 ?_
                        exact ag_iret [x0, x1, x2, s0, s01, s02, s03, s1, s11, s12, s13, s2, s21, s22, s23, s3, s31, s32, s33, h, h1, h2, h3, z1, y1, y2, o, o1, o2, o3, t1] hx hb hr rfl hlocks hP hS rfl rfl ⟨(by unfold sr_X5_now; rw [if_neg c_1_0, if_neg c_1_1, if_neg c_1_2, if_neg c_1_3, if_neg c_1_4, if_neg c_1_5, if_neg c_1_6, if_neg c_1_7, if_neg c_1_8, if_neg c_1_9, if_pos c_1_10]), rfl⟩ dX5_now_166
                      · by_cases c_1_11 : p1 = 11
                        · refine lv_tableIn (off := 166) (tgt := 167) hx hb dX5_now_1 (by rw [c_1_11]; decide) (by rw [c_1_11]; decide) (by rw [c_1_11]; rfl) (by decide) ?_
                          refine lv_aload_n hx hb dX5_now_167 rfl (lv_at hl 0 rfl) ?_
                          refine ag_getX5 (v := .ref h) hx hb hG hown hK hP 0 0 rfl (by decide) k_176 rfl dX5_now_168 ?_
                          refine ag_callVi (As := []) (rest := []) hx hb hml hown hG hK hN hA hP hD hS hl (ct_X1_isBirdHour l D cI cC cL h h1 h2 h3 f se to re) fX1_isBirdHour k_215 (ag_cut_1 [oX x0 h o t1 x1 y1 z1, oH x1 x2 hf, aL cL x2 (gS s0 s1 s2 s3), oL s0 s01 s02 s03 (sf 0), aI cI s01 3 (sse 0), aI cI s02 7 (sto 0), aI cI s03 60 (sre 0), oL s1 s11 s12 s13 (sf 1), aI cI s11 3 (sse 1), aI cI s12 7 (sto 1), aI cI s13 60 (sre 1), oL s2 s21 s22 s23 (sf 2), aI cI s21 3 (sse 2), aI cI s22 7 (sto 2), aI cI s23 60 (sre 2), oL s3 s31 s32 s33 (sf 3), aI cI s31 3 (sse 3), aI cI s32 7 (sto 3), aI cI s33 60 (sre 3)] [oP z1 pf, oT y1 y2 tf, aC cC y2 60 ch, oL o o1 o2 o3 of, aI cI o1 3 ose, aI cI o2 7 oto, aI cI o3 60 ore, oK t1 kf] rfl) (q0 := 19) rfl rfl rfl rfl (Nat.le_of_ble_eq_true rfl) ⟨Nat.le_of_ble_eq_true rfl, Nat.le_of_ble_eq_true rfl⟩ ⟨Nat.zero_le _, Nat.zero_le _⟩ dX5_now_171 (fun r w1 H locs hw hP hD hS => ?_)
                          obtain ⟨rfl, hw⟩ := hw
                          subst hw
                          have hP : va_P D vwCl [oX x0 h o t1 x1 y1 z1, oH x1 x2 hf, aL cL x2 (gS s0 s1 s2 s3), oL s0 s01 s02 s03 (sf 0), aI cI s01 3 (sse 0), aI cI s02 7 (sto 0), aI cI s03 60 (sre 0), oL s1 s11 s12 s13 (sf 1), aI cI s11 3 (sse 1), aI cI s12 7 (sto 1), aI cI s13 60 (sre 1), oL s2 s21 s22 s23 (sf 2), aI cI s21 3 (sse 2), aI cI s22 7 (sto 2), aI cI s23 60 (sre 2), oL s3 s31 s32 s33 (sf 3), aI cI s31 3 (sse 3), aI cI s32 7 (sto 3), aI cI s33 60 (sre 3), oL h h1 h2 h3 f, aI cI h1 3 se, aI cI h2 7 to, aI cI h3 60 re, oP z1 pf, oT y1 y2 tf, aC cC y2 60 ch, oL o o1 o2 o3 of, aI cI o1 3 ose, aI cI o2 7 oto, aI cI o3 60 ore, oK t1 kf] H := hP
                          have hD : va_D A [oX x0 h o t1 x1 y1 z1, oH x1 x2 hf, aL cL x2 (gS s0 s1 s2 s3), oL s0 s01 s02 s03 (sf 0), aI cI s01 3 (sse 0), aI cI s02 7 (sto 0), aI cI s03 60 (sre 0), oL s1 s11 s12 s13 (sf 1), aI cI s11 3 (sse 1), aI cI s12 7 (sto 1), aI cI s13 60 (sre 1), oL s2 s21 s22 s23 (sf 2), aI cI s21 3 (sse 2), aI cI s22 7 (sto 2), aI cI s23 60 (sre 2), oL s3 s31 s32 s33 (sf 3), aI cI s31 3 (sse 3), aI cI s32 7 (sto 3), aI cI s33 60 (sre 3), oL h h1 h2 h3 f, aI cI h1 3 se, aI cI h2 7 to, aI cI h3 60 re, oP z1 pf, oT y1 y2 tf, aC cC y2 60 ch, oL o o1 o2 o3 of, aI cI o1 3 ose, aI cI o2 7 oto, aI cI o3 60 ore, oK t1 kf] := hD
                          refine lv_if_eq (tgt := 181) hx hb dX5_now_174 (by decide) (fun c_174 => ?_) (fun c_174 => ?_)
                          · refine lv_iconst (v := 0) hx hb dX5_now_181 (by decide) ?_
                            exact ag_iret [x0, x1, x2, s0, s01, s02, s03, s1, s11, s12, s13, s2, s21, s22, s23, s3, s31, s32, s33, h, h1, h2, h3, z1, y1, y2, o, o1, o2, o3, t1] hx hb hr rfl hlocks hP hS rfl rfl ⟨(by unfold sr_X5_now; rw [if_neg c_1_0, if_neg c_1_1, if_neg c_1_2, if_neg c_1_3, if_neg c_1_4, if_neg c_1_5, if_neg c_1_6, if_neg c_1_7, if_neg c_1_8, if_neg c_1_9, if_neg c_1_10, if_pos c_1_11, if_pos c_174]), rfl⟩ dX5_now_182
                          · refine lv_iconst (v := 1) hx hb dX5_now_177 (by decide) ?_
                            refine lv_goto (tgt := 182) hx hb dX5_now_178 (by decide) ?_
                            exact ag_iret [x0, x1, x2, s0, s01, s02, s03, s1, s11, s12, s13, s2, s21, s22, s23, s3, s31, s32, s33, h, h1, h2, h3, z1, y1, y2, o, o1, o2, o3, t1] hx hb hr rfl hlocks hP hS rfl rfl ⟨(by unfold sr_X5_now; rw [if_neg c_1_0, if_neg c_1_1, if_neg c_1_2, if_neg c_1_3, if_neg c_1_4, if_neg c_1_5, if_neg c_1_6, if_neg c_1_7, if_neg c_1_8, if_neg c_1_9, if_neg c_1_10, if_pos c_1_11, if_neg c_174]), rfl⟩ dX5_now_182
                        · by_cases c_1_12 : p1 = 12
                          · refine lv_tableIn (off := 182) (tgt := 183) hx hb dX5_now_1 (by rw [c_1_12]; decide) (by rw [c_1_12]; decide) (by rw [c_1_12]; rfl) (by decide) ?_
                            refine lv_aload_n hx hb dX5_now_183 rfl (lv_at hl 0 rfl) ?_
                            refine ag_getX5 (v := .ref h) hx hb hG hown hK hP 0 0 rfl (by decide) k_176 rfl dX5_now_184 ?_
                            refine ag_getX1 (v := .int (f 0)) hx hb hG hown hK hP 19 0 rfl (by decide) k_31 rfl dX5_now_187 ?_
                            refine lv_sipush (v := 144) hx hb dX5_now_190 (by decide) ?_
                            refine lv_idiv hx hb dX5_now_193 (by decide) ?_
                            refine ag_callSi (As := [.int ((f 0) / 144)]) (rest := []) hx hb hml hown hG hK hN hA hP hD hS hl (ct_X5_tideHeight l D cI cC cL ((f 0) / 144)) fX5_tideHeight k_202 ag_cut_0 rfl (Nat.le_of_ble_eq_true rfl) ⟨Nat.le_of_ble_eq_true rfl, Nat.le_of_ble_eq_true rfl⟩ ⟨Nat.zero_le _, Nat.zero_le _⟩ dX5_now_194 (fun r w1 H locs hw hP hD hS => ?_)
                            obtain ⟨rfl, hw⟩ := hw
                            subst hw
                            have hP : va_P D vwCl [oX x0 h o t1 x1 y1 z1, oH x1 x2 hf, aL cL x2 (gS s0 s1 s2 s3), oL s0 s01 s02 s03 (sf 0), aI cI s01 3 (sse 0), aI cI s02 7 (sto 0), aI cI s03 60 (sre 0), oL s1 s11 s12 s13 (sf 1), aI cI s11 3 (sse 1), aI cI s12 7 (sto 1), aI cI s13 60 (sre 1), oL s2 s21 s22 s23 (sf 2), aI cI s21 3 (sse 2), aI cI s22 7 (sto 2), aI cI s23 60 (sre 2), oL s3 s31 s32 s33 (sf 3), aI cI s31 3 (sse 3), aI cI s32 7 (sto 3), aI cI s33 60 (sre 3), oL h h1 h2 h3 f, aI cI h1 3 se, aI cI h2 7 to, aI cI h3 60 re, oP z1 pf, oT y1 y2 tf, aC cC y2 60 ch, oL o o1 o2 o3 of, aI cI o1 3 ose, aI cI o2 7 oto, aI cI o3 60 ore, oK t1 kf] H := hP
                            have hD : va_D A [oX x0 h o t1 x1 y1 z1, oH x1 x2 hf, aL cL x2 (gS s0 s1 s2 s3), oL s0 s01 s02 s03 (sf 0), aI cI s01 3 (sse 0), aI cI s02 7 (sto 0), aI cI s03 60 (sre 0), oL s1 s11 s12 s13 (sf 1), aI cI s11 3 (sse 1), aI cI s12 7 (sto 1), aI cI s13 60 (sre 1), oL s2 s21 s22 s23 (sf 2), aI cI s21 3 (sse 2), aI cI s22 7 (sto 2), aI cI s23 60 (sre 2), oL s3 s31 s32 s33 (sf 3), aI cI s31 3 (sse 3), aI cI s32 7 (sto 3), aI cI s33 60 (sre 3), oL h h1 h2 h3 f, aI cI h1 3 se, aI cI h2 7 to, aI cI h3 60 re, oP z1 pf, oT y1 y2 tf, aC cC y2 60 ch, oL o o1 o2 o3 of, aI cI o1 3 ose, aI cI o2 7 oto, aI cI o3 60 ore, oK t1 kf] := hD
                            exact ag_iret [x0, x1, x2, s0, s01, s02, s03, s1, s11, s12, s13, s2, s21, s22, s23, s3, s31, s32, s33, h, h1, h2, h3, z1, y1, y2, o, o1, o2, o3, t1] hx hb hr rfl hlocks hP hS rfl rfl ⟨(by unfold sr_X5_now; rw [if_neg c_1_0, if_neg c_1_1, if_neg c_1_2, if_neg c_1_3, if_neg c_1_4, if_neg c_1_5, if_neg c_1_6, if_neg c_1_7, if_neg c_1_8, if_neg c_1_9, if_neg c_1_10, if_neg c_1_11, if_pos c_1_12]), rfl⟩ dX5_now_197
                          · refine lv_tableOut (tgt := 198) hx hb dX5_now_1 (by have h0 := lv_neT c_1_0 (a := 0) rfl; have h1 := lv_neT c_1_1 (a := 1) rfl; have h2 := lv_neT c_1_2 (a := 2) rfl; have h3 := lv_neT c_1_3 (a := 3) rfl; have h4 := lv_neT c_1_4 (a := 4) rfl; have h5 := lv_neT c_1_5 (a := 5) rfl; have h6 := lv_neT c_1_6 (a := 6) rfl; have h7 := lv_neT c_1_7 (a := 7) rfl; have h8 := lv_neT c_1_8 (a := 8) rfl; have h9 := lv_neT c_1_9 (a := 9) rfl; have h10 := lv_neT c_1_10 (a := 10) rfl; have h11 := lv_neT c_1_11 (a := 11) rfl; have h12 := lv_neT c_1_12 (a := 12) rfl; omega) (by decide) ?_
                            refine lv_ldc (v := (-1000000001)) hx hb hown (hG _ k_219) dX5_now_198 ?_
                            exact ag_iret [x0, x1, x2, s0, s01, s02, s03, s1, s11, s12, s13, s2, s21, s22, s23, s3, s31, s32, s33, h, h1, h2, h3, z1, y1, y2, o, o1, o2, o3, t1] hx hb hr rfl hlocks hP hS rfl rfl ⟨(by unfold sr_X5_now; rw [if_neg c_1_0, if_neg c_1_1, if_neg c_1_2, if_neg c_1_3, if_neg c_1_4, if_neg c_1_5, if_neg c_1_6, if_neg c_1_7, if_neg c_1_8, if_neg c_1_9, if_neg c_1_10, if_neg c_1_11, if_neg c_1_12]), rfl⟩ dX5_now_200
def sr_X5_record (f : Nat → Int32) (re : Nat → Int32) (p1 : Int32) (p2 : Int32) : Int32 := if p1 < 0 then (-1000000001) else if p2 < 0 then (-1000000001) else if p2 < 6 then if p1 < (sr_X1_firstDay f) then (-1000000004) else if p1 ≤ (sr_X1_lastDay f) then re (rs p1 + p2.toNatClampNeg) else (-1000000004) else (-1000000001)
abbrev po_X5_record (cI cC cL : ClassId) (x0 h o t1 x1 y1 z1 x2 s0 s01 s02 s03 s1 s11 s12 s13 s2 s21 s22 s23 s3 s31 s32 s33 h1 h2 h3 y2 o1 o2 o3 : Nat) (hf f se to re pf tf ch of ose oto ore kf : Nat → Int32) (p1 : Int32) (p2 : Int32) (sf : Nat → Nat → Int32) (sse : Nat → Nat → Int32) (sto : Nat → Nat → Int32) (sre : Nat → Nat → Int32) : Int32 → va_W → Prop := fun r w' => sr_X5_record f re p1 p2 = r ∧ [oX x0 h o t1 x1 y1 z1, oH x1 x2 hf, aL cL x2 (gS s0 s1 s2 s3), oL s0 s01 s02 s03 (sf 0), aI cI s01 3 (sse 0), aI cI s02 7 (sto 0), aI cI s03 60 (sre 0), oL s1 s11 s12 s13 (sf 1), aI cI s11 3 (sse 1), aI cI s12 7 (sto 1), aI cI s13 60 (sre 1), oL s2 s21 s22 s23 (sf 2), aI cI s21 3 (sse 2), aI cI s22 7 (sto 2), aI cI s23 60 (sre 2), oL s3 s31 s32 s33 (sf 3), aI cI s31 3 (sse 3), aI cI s32 7 (sto 3), aI cI s33 60 (sre 3), oL h h1 h2 h3 f, aI cI h1 3 se, aI cI h2 7 to, aI cI h3 60 re, oP z1 pf, oT y1 y2 tf, aC cC y2 60 ch, oL o o1 o2 o3 of, aI cI o1 3 ose, aI cI o2 7 oto, aI cI o3 60 ore, oK t1 kf] = w'
set_option maxHeartbeats 4000000 in
set_option maxRecDepth 100000 in
theorem ct_X5_record (l : Launch) (D : va_G) (cI cC cL : ClassId) (x0 h o t1 x1 y1 z1 x2 s0 s01 s02 s03 s1 s11 s12 s13 s2 s21 s22 s23 s3 s31 s32 s33 h1 h2 h3 y2 o1 o2 o3 : Nat) (hf f se to re pf tf ch of ose oto ore kf : Nat → Int32) (p1 : Int32) (p2 : Int32) (sf : Nat → Nat → Int32) (sse : Nat → Nat → Int32) (sto : Nat → Nat → Int32) (sre : Nat → Nat → Int32) : ag_MI l yX5_record cX5_record 3 .int 3 62 D cI cC cL [.ref x0, .int p1, .int p2] [oX x0 h o t1 x1 y1 z1, oH x1 x2 hf, aL cL x2 (gS s0 s1 s2 s3), oL s0 s01 s02 s03 (sf 0), aI cI s01 3 (sse 0), aI cI s02 7 (sto 0), aI cI s03 60 (sre 0), oL s1 s11 s12 s13 (sf 1), aI cI s11 3 (sse 1), aI cI s12 7 (sto 1), aI cI s13 60 (sre 1), oL s2 s21 s22 s23 (sf 2), aI cI s21 3 (sse 2), aI cI s22 7 (sto 2), aI cI s23 60 (sre 2), oL s3 s31 s32 s33 (sf 3), aI cI s31 3 (sse 3), aI cI s32 7 (sto 3), aI cI s33 60 (sre 3), oL h h1 h2 h3 f, aI cI h1 3 se, aI cI h2 7 to, aI cI h3 60 re, oP z1 pf, oT y1 y2 tf, aC cC y2 60 ch, oL o o1 o2 o3 of, aI cI o1 3 ose, aI cI o2 7 oto, aI cI o3 60 ore, oK t1 kf] (po_X5_record cI cC cL x0 h o t1 x1 y1 z1 x2 s0 s01 s02 s03 s1 s11 s12 s13 s2 s21 s22 s23 s3 s31 s32 s33 h1 h2 h3 y2 o1 o2 o3 hf f se to re pf tf ch of ose oto ore kf p1 p2 sf sse sto sre) := by
  refine ag_MI.of (plainFor_of_name (by decide)) (Nat.le_of_ble_eq_true rfl) ?_
  intro p e s m below meth c hx hb hr hlocks hml hown hmn hG hK A hN hA H locs hP hD hS ls hl
  have hl : lv_has ls 3 [(0, .ref x0), (1, .int p1), (2, .int p2)] := hl
  refine lv_iload_n hx hb dX5_record_0 rfl (lv_at hl 1 rfl) ?_
  refine lv_if_lt (tgt := 14) hx hb dX5_record_1 (by decide) (fun c_1 => ?_) (fun c_1 => ?_)
  · refine lv_ldc (v := (-1000000001)) hx hb hown (hG _ k_219) dX5_record_14 ?_
    exact ag_iret [x0, x1, x2, s0, s01, s02, s03, s1, s11, s12, s13, s2, s21, s22, s23, s3, s31, s32, s33, h, h1, h2, h3, z1, y1, y2, o, o1, o2, o3, t1] hx hb hr rfl hlocks hP hS rfl rfl ⟨(by unfold sr_X5_record; rw [if_pos c_1]), rfl⟩ dX5_record_16
  · refine lv_iload_n hx hb dX5_record_4 rfl (lv_at hl 2 rfl) ?_
    refine lv_if_lt (tgt := 14) hx hb dX5_record_5 (by decide) (fun c_5 => ?_) (fun c_5 => ?_)
    · refine lv_ldc (v := (-1000000001)) hx hb hown (hG _ k_219) dX5_record_14 ?_
      exact ag_iret [x0, x1, x2, s0, s01, s02, s03, s1, s11, s12, s13, s2, s21, s22, s23, s3, s31, s32, s33, h, h1, h2, h3, z1, y1, y2, o, o1, o2, o3, t1] hx hb hr rfl hlocks hP hS rfl rfl ⟨(by unfold sr_X5_record; rw [if_neg c_1, if_pos c_5]), rfl⟩ dX5_record_16
    · refine lv_iload_n hx hb dX5_record_8 rfl (lv_at hl 2 rfl) ?_
      refine lv_bipush (v := 6) hx hb dX5_record_9 (by decide) ?_
      refine lv_icmp_lt (tgt := 17) hx hb dX5_record_11 (by decide) (fun c_11 => ?_) (fun c_11 => ?_)
      · refine lv_iload_n hx hb dX5_record_17 rfl (lv_at hl 1 rfl) ?_
        refine lv_aload_n hx hb dX5_record_18 rfl (lv_at hl 0 rfl) ?_
        refine ag_getX5 (v := .ref h) hx hb hG hown hK hP 0 0 rfl (by decide) k_176 rfl dX5_record_19 ?_
        refine ag_callVi (As := []) (rest := [.int p1]) hx hb hml hown hG hK hN hA hP hD hS hl (ct_X1_firstDay l D cI cC cL h h1 h2 h3 f se to re) fX1_firstDay k_231 (ag_cut_1 [oX x0 h o t1 x1 y1 z1, oH x1 x2 hf, aL cL x2 (gS s0 s1 s2 s3), oL s0 s01 s02 s03 (sf 0), aI cI s01 3 (sse 0), aI cI s02 7 (sto 0), aI cI s03 60 (sre 0), oL s1 s11 s12 s13 (sf 1), aI cI s11 3 (sse 1), aI cI s12 7 (sto 1), aI cI s13 60 (sre 1), oL s2 s21 s22 s23 (sf 2), aI cI s21 3 (sse 2), aI cI s22 7 (sto 2), aI cI s23 60 (sre 2), oL s3 s31 s32 s33 (sf 3), aI cI s31 3 (sse 3), aI cI s32 7 (sto 3), aI cI s33 60 (sre 3)] [oP z1 pf, oT y1 y2 tf, aC cC y2 60 ch, oL o o1 o2 o3 of, aI cI o1 3 ose, aI cI o2 7 oto, aI cI o3 60 ore, oK t1 kf] rfl) (q0 := 19) rfl rfl rfl rfl (Nat.le_of_ble_eq_true rfl) ⟨Nat.le_of_ble_eq_true rfl, Nat.le_of_ble_eq_true rfl⟩ ⟨Nat.zero_le _, Nat.zero_le _⟩ dX5_record_22 (fun r w1 H locs hw hP hD hS => ?_)
        obtain ⟨rfl, hw⟩ := hw
        subst hw
        have hP : va_P D vwCl [oX x0 h o t1 x1 y1 z1, oH x1 x2 hf, aL cL x2 (gS s0 s1 s2 s3), oL s0 s01 s02 s03 (sf 0), aI cI s01 3 (sse 0), aI cI s02 7 (sto 0), aI cI s03 60 (sre 0), oL s1 s11 s12 s13 (sf 1), aI cI s11 3 (sse 1), aI cI s12 7 (sto 1), aI cI s13 60 (sre 1), oL s2 s21 s22 s23 (sf 2), aI cI s21 3 (sse 2), aI cI s22 7 (sto 2), aI cI s23 60 (sre 2), oL s3 s31 s32 s33 (sf 3), aI cI s31 3 (sse 3), aI cI s32 7 (sto 3), aI cI s33 60 (sre 3), oL h h1 h2 h3 f, aI cI h1 3 se, aI cI h2 7 to, aI cI h3 60 re, oP z1 pf, oT y1 y2 tf, aC cC y2 60 ch, oL o o1 o2 o3 of, aI cI o1 3 ose, aI cI o2 7 oto, aI cI o3 60 ore, oK t1 kf] H := hP
        have hD : va_D A [oX x0 h o t1 x1 y1 z1, oH x1 x2 hf, aL cL x2 (gS s0 s1 s2 s3), oL s0 s01 s02 s03 (sf 0), aI cI s01 3 (sse 0), aI cI s02 7 (sto 0), aI cI s03 60 (sre 0), oL s1 s11 s12 s13 (sf 1), aI cI s11 3 (sse 1), aI cI s12 7 (sto 1), aI cI s13 60 (sre 1), oL s2 s21 s22 s23 (sf 2), aI cI s21 3 (sse 2), aI cI s22 7 (sto 2), aI cI s23 60 (sre 2), oL s3 s31 s32 s33 (sf 3), aI cI s31 3 (sse 3), aI cI s32 7 (sto 3), aI cI s33 60 (sre 3), oL h h1 h2 h3 f, aI cI h1 3 se, aI cI h2 7 to, aI cI h3 60 re, oP z1 pf, oT y1 y2 tf, aC cC y2 60 ch, oL o o1 o2 o3 of, aI cI o1 3 ose, aI cI o2 7 oto, aI cI o3 60 ore, oK t1 kf] := hD
        refine lv_icmp_lt (tgt := 39) hx hb dX5_record_25 (by decide) (fun c_25 => ?_) (fun c_25 => ?_)
        · refine lv_ldc (v := (-1000000004)) hx hb hown (hG _ k_411) dX5_record_39 ?_
          exact ag_iret [x0, x1, x2, s0, s01, s02, s03, s1, s11, s12, s13, s2, s21, s22, s23, s3, s31, s32, s33, h, h1, h2, h3, z1, y1, y2, o, o1, o2, o3, t1] hx hb hr rfl hlocks hP hS rfl rfl ⟨(by unfold sr_X5_record; rw [if_neg c_1, if_neg c_5, if_pos c_11, if_pos c_25]), rfl⟩ dX5_record_41
        · refine lv_iload_n hx hb dX5_record_28 rfl (lv_at hl 1 rfl) ?_
          refine lv_aload_n hx hb dX5_record_29 rfl (lv_at hl 0 rfl) ?_
          refine ag_getX5 (v := .ref h) hx hb hG hown hK hP 0 0 rfl (by decide) k_176 rfl dX5_record_30 ?_
          refine ag_callVi (As := []) (rest := [.int p1]) hx hb hml hown hG hK hN hA hP hD hS hl (ct_X1_lastDay l D cI cC cL h h1 h2 h3 f se to re) fX1_lastDay k_224 (ag_cut_1 [oX x0 h o t1 x1 y1 z1, oH x1 x2 hf, aL cL x2 (gS s0 s1 s2 s3), oL s0 s01 s02 s03 (sf 0), aI cI s01 3 (sse 0), aI cI s02 7 (sto 0), aI cI s03 60 (sre 0), oL s1 s11 s12 s13 (sf 1), aI cI s11 3 (sse 1), aI cI s12 7 (sto 1), aI cI s13 60 (sre 1), oL s2 s21 s22 s23 (sf 2), aI cI s21 3 (sse 2), aI cI s22 7 (sto 2), aI cI s23 60 (sre 2), oL s3 s31 s32 s33 (sf 3), aI cI s31 3 (sse 3), aI cI s32 7 (sto 3), aI cI s33 60 (sre 3)] [oP z1 pf, oT y1 y2 tf, aC cC y2 60 ch, oL o o1 o2 o3 of, aI cI o1 3 ose, aI cI o2 7 oto, aI cI o3 60 ore, oK t1 kf] rfl) (q0 := 19) rfl rfl rfl rfl (Nat.le_of_ble_eq_true rfl) ⟨Nat.le_of_ble_eq_true rfl, Nat.le_of_ble_eq_true rfl⟩ ⟨Nat.zero_le _, Nat.zero_le _⟩ dX5_record_33 (fun r w1 H locs hw hP hD hS => ?_)
          obtain ⟨rfl, hw⟩ := hw
          subst hw
          have hP : va_P D vwCl [oX x0 h o t1 x1 y1 z1, oH x1 x2 hf, aL cL x2 (gS s0 s1 s2 s3), oL s0 s01 s02 s03 (sf 0), aI cI s01 3 (sse 0), aI cI s02 7 (sto 0), aI cI s03 60 (sre 0), oL s1 s11 s12 s13 (sf 1), aI cI s11 3 (sse 1), aI cI s12 7 (sto 1), aI cI s13 60 (sre 1), oL s2 s21 s22 s23 (sf 2), aI cI s21 3 (sse 2), aI cI s22 7 (sto 2), aI cI s23 60 (sre 2), oL s3 s31 s32 s33 (sf 3), aI cI s31 3 (sse 3), aI cI s32 7 (sto 3), aI cI s33 60 (sre 3), oL h h1 h2 h3 f, aI cI h1 3 se, aI cI h2 7 to, aI cI h3 60 re, oP z1 pf, oT y1 y2 tf, aC cC y2 60 ch, oL o o1 o2 o3 of, aI cI o1 3 ose, aI cI o2 7 oto, aI cI o3 60 ore, oK t1 kf] H := hP
          have hD : va_D A [oX x0 h o t1 x1 y1 z1, oH x1 x2 hf, aL cL x2 (gS s0 s1 s2 s3), oL s0 s01 s02 s03 (sf 0), aI cI s01 3 (sse 0), aI cI s02 7 (sto 0), aI cI s03 60 (sre 0), oL s1 s11 s12 s13 (sf 1), aI cI s11 3 (sse 1), aI cI s12 7 (sto 1), aI cI s13 60 (sre 1), oL s2 s21 s22 s23 (sf 2), aI cI s21 3 (sse 2), aI cI s22 7 (sto 2), aI cI s23 60 (sre 2), oL s3 s31 s32 s33 (sf 3), aI cI s31 3 (sse 3), aI cI s32 7 (sto 3), aI cI s33 60 (sre 3), oL h h1 h2 h3 f, aI cI h1 3 se, aI cI h2 7 to, aI cI h3 60 re, oP z1 pf, oT y1 y2 tf, aC cC y2 60 ch, oL o o1 o2 o3 of, aI cI o1 3 ose, aI cI o2 7 oto, aI cI o3 60 ore, oK t1 kf] := hD
          refine lv_icmp_le (tgt := 42) hx hb dX5_record_36 (by decide) (fun c_36 => ?_) (fun c_36 => ?_)
          · refine lv_aload_n hx hb dX5_record_42 rfl (lv_at hl 0 rfl) ?_
            refine ag_getX5 (v := .ref h) hx hb hG hown hK hP 0 0 rfl (by decide) k_176 rfl dX5_record_43 ?_
            refine ag_getX1 (v := .ref h3) hx hb hG hown hK hP 19 10 rfl (by decide) k_55 rfl dX5_record_46 ?_
            refine lv_iload_n hx hb dX5_record_49 rfl (lv_at hl 1 rfl) ?_
            refine ag_callSi (As := [.int p1]) (rest := [.ref h3]) hx hb hml hown hG hK hN hA hP hD hS hl (ct_X5_recordStart l D cI cC cL p1) fX5_recordStart k_412 ag_cut_0 rfl (Nat.le_of_ble_eq_true rfl) ⟨Nat.le_of_ble_eq_true rfl, Nat.le_of_ble_eq_true rfl⟩ ⟨Nat.zero_le _, Nat.zero_le _⟩ dX5_record_50 (fun r w1 H locs hw hP hD hS => ?_)
            obtain ⟨rfl, hw⟩ := hw
            subst hw
            have hP : va_P D vwCl [oX x0 h o t1 x1 y1 z1, oH x1 x2 hf, aL cL x2 (gS s0 s1 s2 s3), oL s0 s01 s02 s03 (sf 0), aI cI s01 3 (sse 0), aI cI s02 7 (sto 0), aI cI s03 60 (sre 0), oL s1 s11 s12 s13 (sf 1), aI cI s11 3 (sse 1), aI cI s12 7 (sto 1), aI cI s13 60 (sre 1), oL s2 s21 s22 s23 (sf 2), aI cI s21 3 (sse 2), aI cI s22 7 (sto 2), aI cI s23 60 (sre 2), oL s3 s31 s32 s33 (sf 3), aI cI s31 3 (sse 3), aI cI s32 7 (sto 3), aI cI s33 60 (sre 3), oL h h1 h2 h3 f, aI cI h1 3 se, aI cI h2 7 to, aI cI h3 60 re, oP z1 pf, oT y1 y2 tf, aC cC y2 60 ch, oL o o1 o2 o3 of, aI cI o1 3 ose, aI cI o2 7 oto, aI cI o3 60 ore, oK t1 kf] H := hP
            have hD : va_D A [oX x0 h o t1 x1 y1 z1, oH x1 x2 hf, aL cL x2 (gS s0 s1 s2 s3), oL s0 s01 s02 s03 (sf 0), aI cI s01 3 (sse 0), aI cI s02 7 (sto 0), aI cI s03 60 (sre 0), oL s1 s11 s12 s13 (sf 1), aI cI s11 3 (sse 1), aI cI s12 7 (sto 1), aI cI s13 60 (sre 1), oL s2 s21 s22 s23 (sf 2), aI cI s21 3 (sse 2), aI cI s22 7 (sto 2), aI cI s23 60 (sre 2), oL s3 s31 s32 s33 (sf 3), aI cI s31 3 (sse 3), aI cI s32 7 (sto 3), aI cI s33 60 (sre 3), oL h h1 h2 h3 f, aI cI h1 3 se, aI cI h2 7 to, aI cI h3 60 re, oP z1 pf, oT y1 y2 tf, aC cC y2 60 ch, oL o o1 o2 o3 of, aI cI o1 3 ose, aI cI o2 7 oto, aI cI o3 60 ore, oK t1 kf] := hD
            refine lv_iload_n hx hb dX5_record_53 rfl (lv_at hl 2 rfl) ?_
            refine lv_iadd hx hb dX5_record_54 ?_
            refine ag_ild (k := rs p1 + p2.toNatClampNeg) (v := re (rs p1 + p2.toNatClampNeg)) hx hb hK hP 22 rfl ((congrArg (· + p2) (rs_eq p1)).trans ((congrArg (nI (rs p1) + ·) (ag_ixr (n := 6) (by decide) c_5 c_11).1).trans (nI_add _ _))) (by have := rs_le p1; have := (ag_ixr (n := 6) (by decide) c_5 c_11).2; omega) (Nat.le_of_ble_eq_true rfl) rfl dX5_record_55 ?_
            exact ag_iret [x0, x1, x2, s0, s01, s02, s03, s1, s11, s12, s13, s2, s21, s22, s23, s3, s31, s32, s33, h, h1, h2, h3, z1, y1, y2, o, o1, o2, o3, t1] hx hb hr rfl hlocks hP hS rfl rfl ⟨(by unfold sr_X5_record; rw [if_neg c_1, if_neg c_5, if_pos c_11, if_neg c_25, if_pos c_36]), rfl⟩ dX5_record_56
          · refine lv_ldc (v := (-1000000004)) hx hb hown (hG _ k_411) dX5_record_39 ?_
            exact ag_iret [x0, x1, x2, s0, s01, s02, s03, s1, s11, s12, s13, s2, s21, s22, s23, s3, s31, s32, s33, h, h1, h2, h3, z1, y1, y2, o, o1, o2, o3, t1] hx hb hr rfl hlocks hP hS rfl rfl ⟨(by unfold sr_X5_record; rw [if_neg c_1, if_neg c_5, if_pos c_11, if_neg c_25, if_neg c_36]), rfl⟩ dX5_record_41
      · refine lv_ldc (v := (-1000000001)) hx hb hown (hG _ k_219) dX5_record_14 ?_
        exact ag_iret [x0, x1, x2, s0, s01, s02, s03, s1, s11, s12, s13, s2, s21, s22, s23, s3, s31, s32, s33, h, h1, h2, h3, z1, y1, y2, o, o1, o2, o3, t1] hx hb hr rfl hlocks hP hS rfl rfl ⟨(by unfold sr_X5_record; rw [if_neg c_1, if_neg c_5, if_neg c_11]), rfl⟩ dX5_record_16
def gv15_1_X5_next (f : Nat → Int32) (se : Nat → Int32) (kf : Nat → Int32) : Nat → Int32 := sw0_X4_foresee kf f se (sr_X1_head f)
def sr_X5_next (f : Nat → Int32) (se : Nat → Int32) (kf : Nat → Int32) (p1 : Int32) : Int32 := if p1 = 0 then (gv15_1_X5_next f se kf) 0 else if p1 = 1 then (gv15_1_X5_next f se kf) 1 else if p1 = 2 then (gv15_1_X5_next f se kf) 2 else if p1 = 3 then (gv15_1_X5_next f se kf) 3 else if p1 = 4 then (gv15_1_X5_next f se kf) 4 else if p1 = 5 then (gv15_1_X5_next f se kf) 5 else if p1 = 6 then (gv15_1_X5_next f se kf) 6 else (-1000000001)
def sw30_X5_next (f : Nat → Int32) (se : Nat → Int32) (kf : Nat → Int32) : Nat → Int32 := (gv15_1_X5_next f se kf)
abbrev po_X5_next (cI cC cL : ClassId) (x0 h o t1 x1 y1 z1 x2 s0 s01 s02 s03 s1 s11 s12 s13 s2 s21 s22 s23 s3 s31 s32 s33 h1 h2 h3 y2 o1 o2 o3 : Nat) (hf f se to re pf tf ch of ose oto ore kf : Nat → Int32) (p1 : Int32) (sf : Nat → Nat → Int32) (sse : Nat → Nat → Int32) (sto : Nat → Nat → Int32) (sre : Nat → Nat → Int32) : Int32 → va_W → Prop := fun r w' => sr_X5_next f se kf p1 = r ∧ [oX x0 h o t1 x1 y1 z1, oH x1 x2 hf, aL cL x2 (gS s0 s1 s2 s3), oL s0 s01 s02 s03 (sf 0), aI cI s01 3 (sse 0), aI cI s02 7 (sto 0), aI cI s03 60 (sre 0), oL s1 s11 s12 s13 (sf 1), aI cI s11 3 (sse 1), aI cI s12 7 (sto 1), aI cI s13 60 (sre 1), oL s2 s21 s22 s23 (sf 2), aI cI s21 3 (sse 2), aI cI s22 7 (sto 2), aI cI s23 60 (sre 2), oL s3 s31 s32 s33 (sf 3), aI cI s31 3 (sse 3), aI cI s32 7 (sto 3), aI cI s33 60 (sre 3), oL h h1 h2 h3 f, aI cI h1 3 se, aI cI h2 7 to, aI cI h3 60 re, oP z1 pf, oT y1 y2 tf, aC cC y2 60 ch, oL o o1 o2 o3 of, aI cI o1 3 ose, aI cI o2 7 oto, aI cI o3 60 ore, oK t1 (sw30_X5_next f se kf)] = w'
set_option maxHeartbeats 4000000 in
set_option maxRecDepth 100000 in
theorem ct_X5_next (l : Launch) (D : va_G) (cI cC cL : ClassId) (x0 h o t1 x1 y1 z1 x2 s0 s01 s02 s03 s1 s11 s12 s13 s2 s21 s22 s23 s3 s31 s32 s33 h1 h2 h3 y2 o1 o2 o3 : Nat) (hf f se to re pf tf ch of ose oto ore kf : Nat → Int32) (p1 : Int32) (sf : Nat → Nat → Int32) (sse : Nat → Nat → Int32) (sto : Nat → Nat → Int32) (sre : Nat → Nat → Int32) : ag_MI l yX5_next cX5_next 2 .int 3 63 D cI cC cL [.ref x0, .int p1] [oX x0 h o t1 x1 y1 z1, oH x1 x2 hf, aL cL x2 (gS s0 s1 s2 s3), oL s0 s01 s02 s03 (sf 0), aI cI s01 3 (sse 0), aI cI s02 7 (sto 0), aI cI s03 60 (sre 0), oL s1 s11 s12 s13 (sf 1), aI cI s11 3 (sse 1), aI cI s12 7 (sto 1), aI cI s13 60 (sre 1), oL s2 s21 s22 s23 (sf 2), aI cI s21 3 (sse 2), aI cI s22 7 (sto 2), aI cI s23 60 (sre 2), oL s3 s31 s32 s33 (sf 3), aI cI s31 3 (sse 3), aI cI s32 7 (sto 3), aI cI s33 60 (sre 3), oL h h1 h2 h3 f, aI cI h1 3 se, aI cI h2 7 to, aI cI h3 60 re, oP z1 pf, oT y1 y2 tf, aC cC y2 60 ch, oL o o1 o2 o3 of, aI cI o1 3 ose, aI cI o2 7 oto, aI cI o3 60 ore, oK t1 kf] (po_X5_next cI cC cL x0 h o t1 x1 y1 z1 x2 s0 s01 s02 s03 s1 s11 s12 s13 s2 s21 s22 s23 s3 s31 s32 s33 h1 h2 h3 y2 o1 o2 o3 hf f se to re pf tf ch of ose oto ore kf p1 sf sse sto sre) := by
  refine ag_MI.of (plainFor_of_name (by decide)) (Nat.le_of_ble_eq_true rfl) ?_
  intro p e s m below meth c hx hb hr hlocks hml hown hmn hG hK A hN hA H locs hP hD hS ls hl
  have hl : lv_has ls 2 [(0, .ref x0), (1, .int p1)] := hl
  refine lv_aload_n hx hb dX5_next_0 rfl (lv_at hl 0 rfl) ?_
  refine ag_getX5 (v := .ref t1) hx hb hG hown hK hP 0 2 rfl (by decide) k_178 rfl dX5_next_1 ?_
  refine lv_aload_n hx hb dX5_next_4 rfl (lv_at hl 0 rfl) ?_
  refine ag_getX5 (v := .ref h) hx hb hG hown hK hP 0 0 rfl (by decide) k_176 rfl dX5_next_5 ?_
  refine lv_aload_n hx hb dX5_next_8 rfl (lv_at hl 0 rfl) ?_
  refine ag_getX5 (v := .ref h) hx hb hG hown hK hP 0 0 rfl (by decide) k_176 rfl dX5_next_9 ?_
  refine ag_callVi (As := []) (rest := [.ref h, .ref t1]) hx hb hml hown hG hK hN hA hP hD hS hl (ct_X1_head l D cI cC cL h h1 h2 h3 f se to re) fX1_head k_209 (ag_cut_1 [oX x0 h o t1 x1 y1 z1, oH x1 x2 hf, aL cL x2 (gS s0 s1 s2 s3), oL s0 s01 s02 s03 (sf 0), aI cI s01 3 (sse 0), aI cI s02 7 (sto 0), aI cI s03 60 (sre 0), oL s1 s11 s12 s13 (sf 1), aI cI s11 3 (sse 1), aI cI s12 7 (sto 1), aI cI s13 60 (sre 1), oL s2 s21 s22 s23 (sf 2), aI cI s21 3 (sse 2), aI cI s22 7 (sto 2), aI cI s23 60 (sre 2), oL s3 s31 s32 s33 (sf 3), aI cI s31 3 (sse 3), aI cI s32 7 (sto 3), aI cI s33 60 (sre 3)] [oP z1 pf, oT y1 y2 tf, aC cC y2 60 ch, oL o o1 o2 o3 of, aI cI o1 3 ose, aI cI o2 7 oto, aI cI o3 60 ore, oK t1 kf] rfl) (q0 := 19) rfl rfl rfl rfl (Nat.le_of_ble_eq_true rfl) ⟨Nat.le_of_ble_eq_true rfl, Nat.le_of_ble_eq_true rfl⟩ ⟨Nat.zero_le _, Nat.zero_le _⟩ dX5_next_12 (fun r w1 H locs hw hP hD hS => ?_)
  obtain ⟨rfl, hw⟩ := hw
  subst hw
  have hP : va_P D vwCl [oX x0 h o t1 x1 y1 z1, oH x1 x2 hf, aL cL x2 (gS s0 s1 s2 s3), oL s0 s01 s02 s03 (sf 0), aI cI s01 3 (sse 0), aI cI s02 7 (sto 0), aI cI s03 60 (sre 0), oL s1 s11 s12 s13 (sf 1), aI cI s11 3 (sse 1), aI cI s12 7 (sto 1), aI cI s13 60 (sre 1), oL s2 s21 s22 s23 (sf 2), aI cI s21 3 (sse 2), aI cI s22 7 (sto 2), aI cI s23 60 (sre 2), oL s3 s31 s32 s33 (sf 3), aI cI s31 3 (sse 3), aI cI s32 7 (sto 3), aI cI s33 60 (sre 3), oL h h1 h2 h3 f, aI cI h1 3 se, aI cI h2 7 to, aI cI h3 60 re, oP z1 pf, oT y1 y2 tf, aC cC y2 60 ch, oL o o1 o2 o3 of, aI cI o1 3 ose, aI cI o2 7 oto, aI cI o3 60 ore, oK t1 kf] H := hP
  have hD : va_D A [oX x0 h o t1 x1 y1 z1, oH x1 x2 hf, aL cL x2 (gS s0 s1 s2 s3), oL s0 s01 s02 s03 (sf 0), aI cI s01 3 (sse 0), aI cI s02 7 (sto 0), aI cI s03 60 (sre 0), oL s1 s11 s12 s13 (sf 1), aI cI s11 3 (sse 1), aI cI s12 7 (sto 1), aI cI s13 60 (sre 1), oL s2 s21 s22 s23 (sf 2), aI cI s21 3 (sse 2), aI cI s22 7 (sto 2), aI cI s23 60 (sre 2), oL s3 s31 s32 s33 (sf 3), aI cI s31 3 (sse 3), aI cI s32 7 (sto 3), aI cI s33 60 (sre 3), oL h h1 h2 h3 f, aI cI h1 3 se, aI cI h2 7 to, aI cI h3 60 re, oP z1 pf, oT y1 y2 tf, aC cC y2 60 ch, oL o o1 o2 o3 of, aI cI o1 3 ose, aI cI o2 7 oto, aI cI o3 60 ore, oK t1 kf] := hD
  refine ag_callVv (As := [.ref h, .int (sr_X1_head f)]) (rest := []) hx hb hml hown hG hK hN hA hP hD hS hl (ct_X4_foresee l D cI cC cL t1 h h1 h2 h3 kf f se to re (sr_X1_head f)) fX4_foresee k_423 (ag_cut_2s 1 [oX x0 h o t1 x1 y1 z1, oH x1 x2 hf, aL cL x2 (gS s0 s1 s2 s3), oL s0 s01 s02 s03 (sf 0), aI cI s01 3 (sse 0), aI cI s02 7 (sto 0), aI cI s03 60 (sre 0), oL s1 s11 s12 s13 (sf 1), aI cI s11 3 (sse 1), aI cI s12 7 (sto 1), aI cI s13 60 (sre 1), oL s2 s21 s22 s23 (sf 2), aI cI s21 3 (sse 2), aI cI s22 7 (sto 2), aI cI s23 60 (sre 2), oL s3 s31 s32 s33 (sf 3), aI cI s31 3 (sse 3), aI cI s32 7 (sto 3), aI cI s33 60 (sre 3)] [oK t1 kf] [oP z1 pf, oT y1 y2 tf, aC cC y2 60 ch, oL o o1 o2 o3 of, aI cI o1 3 ose, aI cI o2 7 oto, aI cI o3 60 ore] [oL h h1 h2 h3 f, aI cI h1 3 se, aI cI h2 7 to, aI cI h3 60 re] [] rfl rfl rfl) (q0 := 30) rfl rfl rfl rfl (Nat.le_of_ble_eq_true rfl) ⟨Nat.le_of_ble_eq_true rfl, Nat.le_of_ble_eq_true rfl⟩ ⟨Nat.zero_le _, Nat.zero_le _⟩ dX5_next_15 (fun w1 H locs hw hP hD hS => ?_)
  have hw : _ = w1 := hw
  generalize eg15_1 : sw0_X4_foresee kf f se (sr_X1_head f) = g15_1 at hw
  replace eg15_1 : gv15_1_X5_next f se kf = g15_1 := (by rw [← eg15_1]; rfl)
  subst hw
  have hP : va_P D vwCl [oX x0 h o t1 x1 y1 z1, oH x1 x2 hf, aL cL x2 (gS s0 s1 s2 s3), oL s0 s01 s02 s03 (sf 0), aI cI s01 3 (sse 0), aI cI s02 7 (sto 0), aI cI s03 60 (sre 0), oL s1 s11 s12 s13 (sf 1), aI cI s11 3 (sse 1), aI cI s12 7 (sto 1), aI cI s13 60 (sre 1), oL s2 s21 s22 s23 (sf 2), aI cI s21 3 (sse 2), aI cI s22 7 (sto 2), aI cI s23 60 (sre 2), oL s3 s31 s32 s33 (sf 3), aI cI s31 3 (sse 3), aI cI s32 7 (sto 3), aI cI s33 60 (sre 3), oL h h1 h2 h3 f, aI cI h1 3 se, aI cI h2 7 to, aI cI h3 60 re, oP z1 pf, oT y1 y2 tf, aC cC y2 60 ch, oL o o1 o2 o3 of, aI cI o1 3 ose, aI cI o2 7 oto, aI cI o3 60 ore, oK t1 g15_1] H := hP
  have hD : va_D A [oX x0 h o t1 x1 y1 z1, oH x1 x2 hf, aL cL x2 (gS s0 s1 s2 s3), oL s0 s01 s02 s03 (sf 0), aI cI s01 3 (sse 0), aI cI s02 7 (sto 0), aI cI s03 60 (sre 0), oL s1 s11 s12 s13 (sf 1), aI cI s11 3 (sse 1), aI cI s12 7 (sto 1), aI cI s13 60 (sre 1), oL s2 s21 s22 s23 (sf 2), aI cI s21 3 (sse 2), aI cI s22 7 (sto 2), aI cI s23 60 (sre 2), oL s3 s31 s32 s33 (sf 3), aI cI s31 3 (sse 3), aI cI s32 7 (sto 3), aI cI s33 60 (sre 3), oL h h1 h2 h3 f, aI cI h1 3 se, aI cI h2 7 to, aI cI h3 60 re, oP z1 pf, oT y1 y2 tf, aC cC y2 60 ch, oL o o1 o2 o3 of, aI cI o1 3 ose, aI cI o2 7 oto, aI cI o3 60 ore, oK t1 g15_1] := hD
  refine lv_iload_n hx hb dX5_next_18 rfl (lv_at hl 1 rfl) ?_
  by_cases c_19_0 : p1 = 0
  · refine lv_tableIn (off := 41) (tgt := 60) hx hb dX5_next_19 (by rw [c_19_0]; decide) (by rw [c_19_0]; decide) (by rw [c_19_0]; rfl) (by decide) ?_
    refine lv_aload_n hx hb dX5_next_60 rfl (lv_at hl 0 rfl) ?_
    refine ag_getX5 (v := .ref t1) hx hb hG hown hK hP 0 2 rfl (by decide) k_178 rfl dX5_next_61 ?_
    refine ag_getX4 (v := .int (g15_1 0)) hx hb hG hown hK hP 30 0 rfl (by decide) k_87 rfl dX5_next_64 ?_
    revert hP; revert hD; revert hS; revert hl
    subst eg15_1
    intro hl hS hD hP
    exact ag_iret [x0, x1, x2, s0, s01, s02, s03, s1, s11, s12, s13, s2, s21, s22, s23, s3, s31, s32, s33, h, h1, h2, h3, z1, y1, y2, o, o1, o2, o3, t1] hx hb hr rfl hlocks hP hS rfl rfl ⟨(by unfold sr_X5_next; rw [if_pos c_19_0]), (by show _ = _; rw [show sw30_X5_next f se kf = (gv15_1_X5_next f se kf) from rfl])⟩ dX5_next_67
  · by_cases c_19_1 : p1 = 1
    · refine lv_tableIn (off := 49) (tgt := 68) hx hb dX5_next_19 (by rw [c_19_1]; decide) (by rw [c_19_1]; decide) (by rw [c_19_1]; rfl) (by decide) ?_
      refine lv_aload_n hx hb dX5_next_68 rfl (lv_at hl 0 rfl) ?_
      refine ag_getX5 (v := .ref t1) hx hb hG hown hK hP 0 2 rfl (by decide) k_178 rfl dX5_next_69 ?_
      refine ag_getX4 (v := .int (g15_1 1)) hx hb hG hown hK hP 30 1 rfl (by decide) k_89 rfl dX5_next_72 ?_
      revert hP; revert hD; revert hS; revert hl
      subst eg15_1
      intro hl hS hD hP
      exact ag_iret [x0, x1, x2, s0, s01, s02, s03, s1, s11, s12, s13, s2, s21, s22, s23, s3, s31, s32, s33, h, h1, h2, h3, z1, y1, y2, o, o1, o2, o3, t1] hx hb hr rfl hlocks hP hS rfl rfl ⟨(by unfold sr_X5_next; rw [if_neg c_19_0, if_pos c_19_1]), (by show _ = _; rw [show sw30_X5_next f se kf = (gv15_1_X5_next f se kf) from rfl])⟩ dX5_next_75
    · by_cases c_19_2 : p1 = 2
      · refine lv_tableIn (off := 57) (tgt := 76) hx hb dX5_next_19 (by rw [c_19_2]; decide) (by rw [c_19_2]; decide) (by rw [c_19_2]; rfl) (by decide) ?_
        refine lv_aload_n hx hb dX5_next_76 rfl (lv_at hl 0 rfl) ?_
        refine ag_getX5 (v := .ref t1) hx hb hG hown hK hP 0 2 rfl (by decide) k_178 rfl dX5_next_77 ?_
        refine ag_getX4 (v := .int (g15_1 2)) hx hb hG hown hK hP 30 2 rfl (by decide) k_91 rfl dX5_next_80 ?_
        revert hP; revert hD; revert hS; revert hl
        subst eg15_1
        intro hl hS hD hP
        exact ag_iret [x0, x1, x2, s0, s01, s02, s03, s1, s11, s12, s13, s2, s21, s22, s23, s3, s31, s32, s33, h, h1, h2, h3, z1, y1, y2, o, o1, o2, o3, t1] hx hb hr rfl hlocks hP hS rfl rfl ⟨(by unfold sr_X5_next; rw [if_neg c_19_0, if_neg c_19_1, if_pos c_19_2]), (by show _ = _; rw [show sw30_X5_next f se kf = (gv15_1_X5_next f se kf) from rfl])⟩ dX5_next_83
      · by_cases c_19_3 : p1 = 3
        · refine lv_tableIn (off := 65) (tgt := 84) hx hb dX5_next_19 (by rw [c_19_3]; decide) (by rw [c_19_3]; decide) (by rw [c_19_3]; rfl) (by decide) ?_
          refine lv_aload_n hx hb dX5_next_84 rfl (lv_at hl 0 rfl) ?_
          refine ag_getX5 (v := .ref t1) hx hb hG hown hK hP 0 2 rfl (by decide) k_178 rfl dX5_next_85 ?_
          refine ag_getX4 (v := .int (g15_1 3)) hx hb hG hown hK hP 30 3 rfl (by decide) k_93 rfl dX5_next_88 ?_
          revert hP; revert hD; revert hS; revert hl
          subst eg15_1
          intro hl hS hD hP
          exact ag_iret [x0, x1, x2, s0, s01, s02, s03, s1, s11, s12, s13, s2, s21, s22, s23, s3, s31, s32, s33, h, h1, h2, h3, z1, y1, y2, o, o1, o2, o3, t1] hx hb hr rfl hlocks hP hS rfl rfl ⟨(by unfold sr_X5_next; rw [if_neg c_19_0, if_neg c_19_1, if_neg c_19_2, if_pos c_19_3]), (by show _ = _; rw [show sw30_X5_next f se kf = (gv15_1_X5_next f se kf) from rfl])⟩ dX5_next_91
        · by_cases c_19_4 : p1 = 4
          · refine lv_tableIn (off := 73) (tgt := 92) hx hb dX5_next_19 (by rw [c_19_4]; decide) (by rw [c_19_4]; decide) (by rw [c_19_4]; rfl) (by decide) ?_
            refine lv_aload_n hx hb dX5_next_92 rfl (lv_at hl 0 rfl) ?_
            refine ag_getX5 (v := .ref t1) hx hb hG hown hK hP 0 2 rfl (by decide) k_178 rfl dX5_next_93 ?_
            refine ag_getX4 (v := .int (g15_1 4)) hx hb hG hown hK hP 30 4 rfl (by decide) k_96 rfl dX5_next_96 ?_
            revert hP; revert hD; revert hS; revert hl
            subst eg15_1
            intro hl hS hD hP
            exact ag_iret [x0, x1, x2, s0, s01, s02, s03, s1, s11, s12, s13, s2, s21, s22, s23, s3, s31, s32, s33, h, h1, h2, h3, z1, y1, y2, o, o1, o2, o3, t1] hx hb hr rfl hlocks hP hS rfl rfl ⟨(by unfold sr_X5_next; rw [if_neg c_19_0, if_neg c_19_1, if_neg c_19_2, if_neg c_19_3, if_pos c_19_4]), (by show _ = _; rw [show sw30_X5_next f se kf = (gv15_1_X5_next f se kf) from rfl])⟩ dX5_next_99
          · by_cases c_19_5 : p1 = 5
            · refine lv_tableIn (off := 81) (tgt := 100) hx hb dX5_next_19 (by rw [c_19_5]; decide) (by rw [c_19_5]; decide) (by rw [c_19_5]; rfl) (by decide) ?_
              refine lv_aload_n hx hb dX5_next_100 rfl (lv_at hl 0 rfl) ?_
              refine ag_getX5 (v := .ref t1) hx hb hG hown hK hP 0 2 rfl (by decide) k_178 rfl dX5_next_101 ?_
              refine ag_getX4 (v := .int (g15_1 5)) hx hb hG hown hK hP 30 5 rfl (by decide) k_99 rfl dX5_next_104 ?_
              revert hP; revert hD; revert hS; revert hl
              subst eg15_1
              intro hl hS hD hP
              exact ag_iret [x0, x1, x2, s0, s01, s02, s03, s1, s11, s12, s13, s2, s21, s22, s23, s3, s31, s32, s33, h, h1, h2, h3, z1, y1, y2, o, o1, o2, o3, t1] hx hb hr rfl hlocks hP hS rfl rfl ⟨(by unfold sr_X5_next; rw [if_neg c_19_0, if_neg c_19_1, if_neg c_19_2, if_neg c_19_3, if_neg c_19_4, if_pos c_19_5]), (by show _ = _; rw [show sw30_X5_next f se kf = (gv15_1_X5_next f se kf) from rfl])⟩ dX5_next_107
            · by_cases c_19_6 : p1 = 6
              · refine lv_tableIn (off := 89) (tgt := 108) hx hb dX5_next_19 (by rw [c_19_6]; decide) (by rw [c_19_6]; decide) (by rw [c_19_6]; rfl) (by decide) ?_
                refine lv_aload_n hx hb dX5_next_108 rfl (lv_at hl 0 rfl) ?_
                refine ag_getX5 (v := .ref t1) hx hb hG hown hK hP 0 2 rfl (by decide) k_178 rfl dX5_next_109 ?_
                refine ag_getX4 (v := .int (g15_1 6)) hx hb hG hown hK hP 30 6 rfl (by decide) k_102 rfl dX5_next_112 ?_
                revert hP; revert hD; revert hS; revert hl
                subst eg15_1
                intro hl hS hD hP
                exact ag_iret [x0, x1, x2, s0, s01, s02, s03, s1, s11, s12, s13, s2, s21, s22, s23, s3, s31, s32, s33, h, h1, h2, h3, z1, y1, y2, o, o1, o2, o3, t1] hx hb hr rfl hlocks hP hS rfl rfl ⟨(by unfold sr_X5_next; rw [if_neg c_19_0, if_neg c_19_1, if_neg c_19_2, if_neg c_19_3, if_neg c_19_4, if_neg c_19_5, if_pos c_19_6]), (by show _ = _; rw [show sw30_X5_next f se kf = (gv15_1_X5_next f se kf) from rfl])⟩ dX5_next_115
              · refine lv_tableOut (tgt := 116) hx hb dX5_next_19 (by have h0 := lv_neT c_19_0 (a := 0) rfl; have h1 := lv_neT c_19_1 (a := 1) rfl; have h2 := lv_neT c_19_2 (a := 2) rfl; have h3 := lv_neT c_19_3 (a := 3) rfl; have h4 := lv_neT c_19_4 (a := 4) rfl; have h5 := lv_neT c_19_5 (a := 5) rfl; have h6 := lv_neT c_19_6 (a := 6) rfl; omega) (by decide) ?_
                refine lv_ldc (v := (-1000000001)) hx hb hown (hG _ k_219) dX5_next_116 ?_
                revert hP; revert hD; revert hS; revert hl
                subst eg15_1
                intro hl hS hD hP
                exact ag_iret [x0, x1, x2, s0, s01, s02, s03, s1, s11, s12, s13, s2, s21, s22, s23, s3, s31, s32, s33, h, h1, h2, h3, z1, y1, y2, o, o1, o2, o3, t1] hx hb hr rfl hlocks hP hS rfl rfl ⟨(by unfold sr_X5_next; rw [if_neg c_19_0, if_neg c_19_1, if_neg c_19_2, if_neg c_19_3, if_neg c_19_4, if_neg c_19_5, if_neg c_19_6]), (by show _ = _; rw [show sw30_X5_next f se kf = (gv15_1_X5_next f se kf) from rfl])⟩ dX5_next_118
theorem ag_cnt {x : Int32} (h0 : ¬ x < 20) (h1 : ¬ 23 ≤ x) : x - 20 = nI (x - 20).toNatClampNeg ∧ (x - 20).toNatClampNeg < 3 := by
  rw [Int32.lt_iff_toInt_lt, show (20 : Int32).toInt = 20 from rfl] at h0
  rw [Int32.le_iff_toInt_le, show (23 : Int32).toInt = 23 from rfl] at h1
  have e : (x - 20).toInt = x.toInt - 20 := by
    rw [Int32.toInt_sub, show (20 : Int32).toInt = 20 from rfl, ag_bm (by omega) (by omega)]
  have h2 : x - 20 = nI (x.toInt - 20).toNat := ag_ofT (by rw [e]; omega) (by omega)
  rw [h2, nI_clamp (by omega)]
  exact ⟨rfl, by omega⟩
theorem ag_i2c {x : Int32} (h0 : ¬ x < 32) (h1 : x ≤ 126) : (x.toUInt32 % 65536).toInt32 = x ∧ vp_nar .char x = x ∧ ∃ q : Nat, q < 128 ∧ x = nI q := by
  rw [Int32.lt_iff_toInt_lt, show (32 : Int32).toInt = 32 from rfl] at h0
  rw [Int32.le_iff_toInt_le, show (126 : Int32).toInt = 126 from rfl] at h1
  have h2 : x = nI x.toInt.toNat := ag_ofT (by omega) (by omega)
  have hq : x.toInt.toNat < 128 := by omega
  refine ⟨?_, ?_, x.toInt.toNat, hq, h2⟩
  · rw [pk_char]
    have h3 : x.toBitVec.toNat = x.toInt.toNat := by
      have := pk_tn (n := x.toInt.toNat) (by omega)
      rw [← h2] at this
      exact this
    rw [h3, Nat.mod_eq_of_lt (by omega)]
    exact h2.symm
  · have := (pk_charN (q := x.toInt.toNat) (by omega)).1
    rw [← h2] at this
    unfold vp_nar
    rw [this]
def sr_X5_count (hf : Nat → Int32) (f : Nat → Int32) (se : Nat → Int32) (to : Nat → Int32) (tf : Nat → Int32) (p1 : Int32) : Int32 := if p1 < 0 then if p1 < 20 then if p1 = 7 then ((sr_X1_lastDay f) - (sr_X1_firstDay f)) + 1 else if p1 = 8 then hf 1 else if p1 = 9 then tf 0 else (-1000000001) else if 23 ≤ p1 then if p1 = 7 then ((sr_X1_lastDay f) - (sr_X1_firstDay f)) + 1 else if p1 = 8 then hf 1 else if p1 = 9 then tf 0 else (-1000000001) else se ((p1 - 20).toNatClampNeg) else if 7 ≤ p1 then if p1 < 20 then if p1 = 7 then ((sr_X1_lastDay f) - (sr_X1_firstDay f)) + 1 else if p1 = 8 then hf 1 else if p1 = 9 then tf 0 else (-1000000001) else if 23 ≤ p1 then if p1 = 7 then ((sr_X1_lastDay f) - (sr_X1_firstDay f)) + 1 else if p1 = 8 then hf 1 else if p1 = 9 then tf 0 else (-1000000001) else se ((p1 - 20).toNatClampNeg) else to p1.toNatClampNeg
abbrev po_X5_count (cI cC cL : ClassId) (x0 h o t1 x1 y1 z1 x2 s0 s01 s02 s03 s1 s11 s12 s13 s2 s21 s22 s23 s3 s31 s32 s33 h1 h2 h3 y2 o1 o2 o3 : Nat) (hf f se to re pf tf ch of ose oto ore kf : Nat → Int32) (p1 : Int32) (sf : Nat → Nat → Int32) (sse : Nat → Nat → Int32) (sto : Nat → Nat → Int32) (sre : Nat → Nat → Int32) : Int32 → va_W → Prop := fun r w' => sr_X5_count hf f se to tf p1 = r ∧ [oX x0 h o t1 x1 y1 z1, oH x1 x2 hf, aL cL x2 (gS s0 s1 s2 s3), oL s0 s01 s02 s03 (sf 0), aI cI s01 3 (sse 0), aI cI s02 7 (sto 0), aI cI s03 60 (sre 0), oL s1 s11 s12 s13 (sf 1), aI cI s11 3 (sse 1), aI cI s12 7 (sto 1), aI cI s13 60 (sre 1), oL s2 s21 s22 s23 (sf 2), aI cI s21 3 (sse 2), aI cI s22 7 (sto 2), aI cI s23 60 (sre 2), oL s3 s31 s32 s33 (sf 3), aI cI s31 3 (sse 3), aI cI s32 7 (sto 3), aI cI s33 60 (sre 3), oL h h1 h2 h3 f, aI cI h1 3 se, aI cI h2 7 to, aI cI h3 60 re, oP z1 pf, oT y1 y2 tf, aC cC y2 60 ch, oL o o1 o2 o3 of, aI cI o1 3 ose, aI cI o2 7 oto, aI cI o3 60 ore, oK t1 kf] = w'
set_option maxHeartbeats 4000000 in
set_option maxRecDepth 100000 in
theorem ct_X5_count (l : Launch) (D : va_G) (cI cC cL : ClassId) (x0 h o t1 x1 y1 z1 x2 s0 s01 s02 s03 s1 s11 s12 s13 s2 s21 s22 s23 s3 s31 s32 s33 h1 h2 h3 y2 o1 o2 o3 : Nat) (hf f se to re pf tf ch of ose oto ore kf : Nat → Int32) (p1 : Int32) (sf : Nat → Nat → Int32) (sse : Nat → Nat → Int32) (sto : Nat → Nat → Int32) (sre : Nat → Nat → Int32) : ag_MI l yX5_count cX5_count 2 .int 3 62 D cI cC cL [.ref x0, .int p1] [oX x0 h o t1 x1 y1 z1, oH x1 x2 hf, aL cL x2 (gS s0 s1 s2 s3), oL s0 s01 s02 s03 (sf 0), aI cI s01 3 (sse 0), aI cI s02 7 (sto 0), aI cI s03 60 (sre 0), oL s1 s11 s12 s13 (sf 1), aI cI s11 3 (sse 1), aI cI s12 7 (sto 1), aI cI s13 60 (sre 1), oL s2 s21 s22 s23 (sf 2), aI cI s21 3 (sse 2), aI cI s22 7 (sto 2), aI cI s23 60 (sre 2), oL s3 s31 s32 s33 (sf 3), aI cI s31 3 (sse 3), aI cI s32 7 (sto 3), aI cI s33 60 (sre 3), oL h h1 h2 h3 f, aI cI h1 3 se, aI cI h2 7 to, aI cI h3 60 re, oP z1 pf, oT y1 y2 tf, aC cC y2 60 ch, oL o o1 o2 o3 of, aI cI o1 3 ose, aI cI o2 7 oto, aI cI o3 60 ore, oK t1 kf] (po_X5_count cI cC cL x0 h o t1 x1 y1 z1 x2 s0 s01 s02 s03 s1 s11 s12 s13 s2 s21 s22 s23 s3 s31 s32 s33 h1 h2 h3 y2 o1 o2 o3 hf f se to re pf tf ch of ose oto ore kf p1 sf sse sto sre) := by
  refine ag_MI.of (plainFor_of_name (by decide)) (Nat.le_of_ble_eq_true rfl) ?_
  intro p e s m below meth c hx hb hr hlocks hml hown hmn hG hK A hN hA H locs hP hD hS ls hl
  have hl : lv_has ls 2 [(0, .ref x0), (1, .int p1)] := hl
  refine lv_iload_n hx hb dX5_count_0 rfl (lv_at hl 1 rfl) ?_
  refine lv_if_lt (tgt := 20) hx hb dX5_count_1 (by decide) (fun c_1 => ?_) (fun c_1 => ?_)
  · refine lv_iload_n hx hb dX5_count_20 rfl (lv_at hl 1 rfl) ?_
    refine lv_bipush (v := 20) hx hb dX5_count_21 (by decide) ?_
    refine lv_icmp_lt (tgt := 45) hx hb dX5_count_23 (by decide) (fun c_23 => ?_) (fun c_23 => ?_)
    · refine lv_iload_n hx hb dX5_count_45 rfl (lv_at hl 1 rfl) ?_
      by_cases c_46_7 : p1 = 7
      · refine lv_tableIn (off := 26) (tgt := 72) hx hb dX5_count_46 (by rw [c_46_7]; decide) (by rw [c_46_7]; decide) (by rw [c_46_7]; rfl) (by decide) ?_
        refine lv_aload_n hx hb dX5_count_72 rfl (lv_at hl 0 rfl) ?_
        refine ag_getX5 (v := .ref h) hx hb hG hown hK hP 0 0 rfl (by decide) k_176 rfl dX5_count_73 ?_
        refine ag_callVi (As := []) (rest := []) hx hb hml hown hG hK hN hA hP hD hS hl (ct_X1_lastDay l D cI cC cL h h1 h2 h3 f se to re) fX1_lastDay k_224 (ag_cut_1 [oX x0 h o t1 x1 y1 z1, oH x1 x2 hf, aL cL x2 (gS s0 s1 s2 s3), oL s0 s01 s02 s03 (sf 0), aI cI s01 3 (sse 0), aI cI s02 7 (sto 0), aI cI s03 60 (sre 0), oL s1 s11 s12 s13 (sf 1), aI cI s11 3 (sse 1), aI cI s12 7 (sto 1), aI cI s13 60 (sre 1), oL s2 s21 s22 s23 (sf 2), aI cI s21 3 (sse 2), aI cI s22 7 (sto 2), aI cI s23 60 (sre 2), oL s3 s31 s32 s33 (sf 3), aI cI s31 3 (sse 3), aI cI s32 7 (sto 3), aI cI s33 60 (sre 3)] [oP z1 pf, oT y1 y2 tf, aC cC y2 60 ch, oL o o1 o2 o3 of, aI cI o1 3 ose, aI cI o2 7 oto, aI cI o3 60 ore, oK t1 kf] rfl) (q0 := 19) rfl rfl rfl rfl (Nat.le_of_ble_eq_true rfl) ⟨Nat.le_of_ble_eq_true rfl, Nat.le_of_ble_eq_true rfl⟩ ⟨Nat.zero_le _, Nat.zero_le _⟩ dX5_count_76 (fun r w1 H locs hw hP hD hS => ?_)
        obtain ⟨rfl, hw⟩ := hw
        subst hw
        have hP : va_P D vwCl [oX x0 h o t1 x1 y1 z1, oH x1 x2 hf, aL cL x2 (gS s0 s1 s2 s3), oL s0 s01 s02 s03 (sf 0), aI cI s01 3 (sse 0), aI cI s02 7 (sto 0), aI cI s03 60 (sre 0), oL s1 s11 s12 s13 (sf 1), aI cI s11 3 (sse 1), aI cI s12 7 (sto 1), aI cI s13 60 (sre 1), oL s2 s21 s22 s23 (sf 2), aI cI s21 3 (sse 2), aI cI s22 7 (sto 2), aI cI s23 60 (sre 2), oL s3 s31 s32 s33 (sf 3), aI cI s31 3 (sse 3), aI cI s32 7 (sto 3), aI cI s33 60 (sre 3), oL h h1 h2 h3 f, aI cI h1 3 se, aI cI h2 7 to, aI cI h3 60 re, oP z1 pf, oT y1 y2 tf, aC cC y2 60 ch, oL o o1 o2 o3 of, aI cI o1 3 ose, aI cI o2 7 oto, aI cI o3 60 ore, oK t1 kf] H := hP
        have hD : va_D A [oX x0 h o t1 x1 y1 z1, oH x1 x2 hf, aL cL x2 (gS s0 s1 s2 s3), oL s0 s01 s02 s03 (sf 0), aI cI s01 3 (sse 0), aI cI s02 7 (sto 0), aI cI s03 60 (sre 0), oL s1 s11 s12 s13 (sf 1), aI cI s11 3 (sse 1), aI cI s12 7 (sto 1), aI cI s13 60 (sre 1), oL s2 s21 s22 s23 (sf 2), aI cI s21 3 (sse 2), aI cI s22 7 (sto 2), aI cI s23 60 (sre 2), oL s3 s31 s32 s33 (sf 3), aI cI s31 3 (sse 3), aI cI s32 7 (sto 3), aI cI s33 60 (sre 3), oL h h1 h2 h3 f, aI cI h1 3 se, aI cI h2 7 to, aI cI h3 60 re, oP z1 pf, oT y1 y2 tf, aC cC y2 60 ch, oL o o1 o2 o3 of, aI cI o1 3 ose, aI cI o2 7 oto, aI cI o3 60 ore, oK t1 kf] := hD
        refine lv_aload_n hx hb dX5_count_79 rfl (lv_at hl 0 rfl) ?_
        refine ag_getX5 (v := .ref h) hx hb hG hown hK hP 0 0 rfl (by decide) k_176 rfl dX5_count_80 ?_
        refine ag_callVi (As := []) (rest := [.int (sr_X1_lastDay f)]) hx hb hml hown hG hK hN hA hP hD hS hl (ct_X1_firstDay l D cI cC cL h h1 h2 h3 f se to re) fX1_firstDay k_231 (ag_cut_1 [oX x0 h o t1 x1 y1 z1, oH x1 x2 hf, aL cL x2 (gS s0 s1 s2 s3), oL s0 s01 s02 s03 (sf 0), aI cI s01 3 (sse 0), aI cI s02 7 (sto 0), aI cI s03 60 (sre 0), oL s1 s11 s12 s13 (sf 1), aI cI s11 3 (sse 1), aI cI s12 7 (sto 1), aI cI s13 60 (sre 1), oL s2 s21 s22 s23 (sf 2), aI cI s21 3 (sse 2), aI cI s22 7 (sto 2), aI cI s23 60 (sre 2), oL s3 s31 s32 s33 (sf 3), aI cI s31 3 (sse 3), aI cI s32 7 (sto 3), aI cI s33 60 (sre 3)] [oP z1 pf, oT y1 y2 tf, aC cC y2 60 ch, oL o o1 o2 o3 of, aI cI o1 3 ose, aI cI o2 7 oto, aI cI o3 60 ore, oK t1 kf] rfl) (q0 := 19) rfl rfl rfl rfl (Nat.le_of_ble_eq_true rfl) ⟨Nat.le_of_ble_eq_true rfl, Nat.le_of_ble_eq_true rfl⟩ ⟨Nat.zero_le _, Nat.zero_le _⟩ dX5_count_83 (fun r w1 H locs hw hP hD hS => ?_)
        obtain ⟨rfl, hw⟩ := hw
        subst hw
        have hP : va_P D vwCl [oX x0 h o t1 x1 y1 z1, oH x1 x2 hf, aL cL x2 (gS s0 s1 s2 s3), oL s0 s01 s02 s03 (sf 0), aI cI s01 3 (sse 0), aI cI s02 7 (sto 0), aI cI s03 60 (sre 0), oL s1 s11 s12 s13 (sf 1), aI cI s11 3 (sse 1), aI cI s12 7 (sto 1), aI cI s13 60 (sre 1), oL s2 s21 s22 s23 (sf 2), aI cI s21 3 (sse 2), aI cI s22 7 (sto 2), aI cI s23 60 (sre 2), oL s3 s31 s32 s33 (sf 3), aI cI s31 3 (sse 3), aI cI s32 7 (sto 3), aI cI s33 60 (sre 3), oL h h1 h2 h3 f, aI cI h1 3 se, aI cI h2 7 to, aI cI h3 60 re, oP z1 pf, oT y1 y2 tf, aC cC y2 60 ch, oL o o1 o2 o3 of, aI cI o1 3 ose, aI cI o2 7 oto, aI cI o3 60 ore, oK t1 kf] H := hP
        have hD : va_D A [oX x0 h o t1 x1 y1 z1, oH x1 x2 hf, aL cL x2 (gS s0 s1 s2 s3), oL s0 s01 s02 s03 (sf 0), aI cI s01 3 (sse 0), aI cI s02 7 (sto 0), aI cI s03 60 (sre 0), oL s1 s11 s12 s13 (sf 1), aI cI s11 3 (sse 1), aI cI s12 7 (sto 1), aI cI s13 60 (sre 1), oL s2 s21 s22 s23 (sf 2), aI cI s21 3 (sse 2), aI cI s22 7 (sto 2), aI cI s23 60 (sre 2), oL s3 s31 s32 s33 (sf 3), aI cI s31 3 (sse 3), aI cI s32 7 (sto 3), aI cI s33 60 (sre 3), oL h h1 h2 h3 f, aI cI h1 3 se, aI cI h2 7 to, aI cI h3 60 re, oP z1 pf, oT y1 y2 tf, aC cC y2 60 ch, oL o o1 o2 o3 of, aI cI o1 3 ose, aI cI o2 7 oto, aI cI o3 60 ore, oK t1 kf] := hD
        refine lv_isub hx hb dX5_count_86 ?_
        refine lv_iconst (v := 1) hx hb dX5_count_87 (by decide) ?_
        refine lv_iadd hx hb dX5_count_88 ?_
        exact ag_iret [x0, x1, x2, s0, s01, s02, s03, s1, s11, s12, s13, s2, s21, s22, s23, s3, s31, s32, s33, h, h1, h2, h3, z1, y1, y2, o, o1, o2, o3, t1] hx hb hr rfl hlocks hP hS rfl rfl ⟨(by unfold sr_X5_count; rw [if_pos c_1, if_pos c_23, if_pos c_46_7]), rfl⟩ dX5_count_89
      · by_cases c_46_8 : p1 = 8
        · refine lv_tableIn (off := 44) (tgt := 90) hx hb dX5_count_46 (by rw [c_46_8]; decide) (by rw [c_46_8]; decide) (by rw [c_46_8]; rfl) (by decide) ?_
          refine lv_aload_n hx hb dX5_count_90 rfl (lv_at hl 0 rfl) ?_
          refine ag_getX5 (v := .ref x1) hx hb hG hown hK hP 0 3 rfl (by decide) k_179 rfl dX5_count_91 ?_
          refine ag_getX0 (v := .int (hf 1)) hx hb hG hown hK hP 1 2 rfl (by decide) k_131 rfl dX5_count_94 ?_
          exact ag_iret [x0, x1, x2, s0, s01, s02, s03, s1, s11, s12, s13, s2, s21, s22, s23, s3, s31, s32, s33, h, h1, h2, h3, z1, y1, y2, o, o1, o2, o3, t1] hx hb hr rfl hlocks hP hS rfl rfl ⟨(by unfold sr_X5_count; rw [if_pos c_1, if_pos c_23, if_neg c_46_7, if_pos c_46_8]), rfl⟩ dX5_count_97
        · by_cases c_46_9 : p1 = 9
          · refine lv_tableIn (off := 52) (tgt := 98) hx hb dX5_count_46 (by rw [c_46_9]; decide) (by rw [c_46_9]; decide) (by rw [c_46_9]; rfl) (by decide) ?_
            refine lv_aload_n hx hb dX5_count_98 rfl (lv_at hl 0 rfl) ?_
            refine ag_getX5 (v := .ref y1) hx hb hG hown hK hP 0 4 rfl (by decide) k_180 rfl dX5_count_99 ?_
            refine ag_getX3 (v := .int (tf 0)) hx hb hG hown hK hP 24 1 rfl (by decide) k_146 rfl dX5_count_102 ?_
            exact ag_iret [x0, x1, x2, s0, s01, s02, s03, s1, s11, s12, s13, s2, s21, s22, s23, s3, s31, s32, s33, h, h1, h2, h3, z1, y1, y2, o, o1, o2, o3, t1] hx hb hr rfl hlocks hP hS rfl rfl ⟨(by unfold sr_X5_count; rw [if_pos c_1, if_pos c_23, if_neg c_46_7, if_neg c_46_8, if_pos c_46_9]), rfl⟩ dX5_count_105
          · refine lv_tableOut (tgt := 106) hx hb dX5_count_46 (by have h0 := lv_neT c_46_7 (a := 7) rfl; have h1 := lv_neT c_46_8 (a := 8) rfl; have h2 := lv_neT c_46_9 (a := 9) rfl; omega) (by decide) ?_
            refine lv_ldc (v := (-1000000001)) hx hb hown (hG _ k_219) dX5_count_106 ?_
            exact ag_iret [x0, x1, x2, s0, s01, s02, s03, s1, s11, s12, s13, s2, s21, s22, s23, s3, s31, s32, s33, h, h1, h2, h3, z1, y1, y2, o, o1, o2, o3, t1] hx hb hr rfl hlocks hP hS rfl rfl ⟨(by unfold sr_X5_count; rw [if_pos c_1, if_pos c_23, if_neg c_46_7, if_neg c_46_8, if_neg c_46_9]), rfl⟩ dX5_count_108
    · refine lv_iload_n hx hb dX5_count_26 rfl (lv_at hl 1 rfl) ?_
      refine lv_bipush (v := 23) hx hb dX5_count_27 (by decide) ?_
      refine lv_icmp_ge (tgt := 45) hx hb dX5_count_29 (by decide) (fun c_29 => ?_) (fun c_29 => ?_)
      · refine lv_iload_n hx hb dX5_count_45 rfl (lv_at hl 1 rfl) ?_
        by_cases c_46_7 : p1 = 7
        · refine lv_tableIn (off := 26) (tgt := 72) hx hb dX5_count_46 (by rw [c_46_7]; decide) (by rw [c_46_7]; decide) (by rw [c_46_7]; rfl) (by decide) ?_
          refine lv_aload_n hx hb dX5_count_72 rfl (lv_at hl 0 rfl) ?_
          refine ag_getX5 (v := .ref h) hx hb hG hown hK hP 0 0 rfl (by decide) k_176 rfl dX5_count_73 ?_
          refine ag_callVi (As := []) (rest := []) hx hb hml hown hG hK hN hA hP hD hS hl (ct_X1_lastDay l D cI cC cL h h1 h2 h3 f se to re) fX1_lastDay k_224 (ag_cut_1 [oX x0 h o t1 x1 y1 z1, oH x1 x2 hf, aL cL x2 (gS s0 s1 s2 s3), oL s0 s01 s02 s03 (sf 0), aI cI s01 3 (sse 0), aI cI s02 7 (sto 0), aI cI s03 60 (sre 0), oL s1 s11 s12 s13 (sf 1), aI cI s11 3 (sse 1), aI cI s12 7 (sto 1), aI cI s13 60 (sre 1), oL s2 s21 s22 s23 (sf 2), aI cI s21 3 (sse 2), aI cI s22 7 (sto 2), aI cI s23 60 (sre 2), oL s3 s31 s32 s33 (sf 3), aI cI s31 3 (sse 3), aI cI s32 7 (sto 3), aI cI s33 60 (sre 3)] [oP z1 pf, oT y1 y2 tf, aC cC y2 60 ch, oL o o1 o2 o3 of, aI cI o1 3 ose, aI cI o2 7 oto, aI cI o3 60 ore, oK t1 kf] rfl) (q0 := 19) rfl rfl rfl rfl (Nat.le_of_ble_eq_true rfl) ⟨Nat.le_of_ble_eq_true rfl, Nat.le_of_ble_eq_true rfl⟩ ⟨Nat.zero_le _, Nat.zero_le _⟩ dX5_count_76 (fun r w1 H locs hw hP hD hS => ?_)
          obtain ⟨rfl, hw⟩ := hw
          subst hw
          have hP : va_P D vwCl [oX x0 h o t1 x1 y1 z1, oH x1 x2 hf, aL cL x2 (gS s0 s1 s2 s3), oL s0 s01 s02 s03 (sf 0), aI cI s01 3 (sse 0), aI cI s02 7 (sto 0), aI cI s03 60 (sre 0), oL s1 s11 s12 s13 (sf 1), aI cI s11 3 (sse 1), aI cI s12 7 (sto 1), aI cI s13 60 (sre 1), oL s2 s21 s22 s23 (sf 2), aI cI s21 3 (sse 2), aI cI s22 7 (sto 2), aI cI s23 60 (sre 2), oL s3 s31 s32 s33 (sf 3), aI cI s31 3 (sse 3), aI cI s32 7 (sto 3), aI cI s33 60 (sre 3), oL h h1 h2 h3 f, aI cI h1 3 se, aI cI h2 7 to, aI cI h3 60 re, oP z1 pf, oT y1 y2 tf, aC cC y2 60 ch, oL o o1 o2 o3 of, aI cI o1 3 ose, aI cI o2 7 oto, aI cI o3 60 ore, oK t1 kf] H := hP
          have hD : va_D A [oX x0 h o t1 x1 y1 z1, oH x1 x2 hf, aL cL x2 (gS s0 s1 s2 s3), oL s0 s01 s02 s03 (sf 0), aI cI s01 3 (sse 0), aI cI s02 7 (sto 0), aI cI s03 60 (sre 0), oL s1 s11 s12 s13 (sf 1), aI cI s11 3 (sse 1), aI cI s12 7 (sto 1), aI cI s13 60 (sre 1), oL s2 s21 s22 s23 (sf 2), aI cI s21 3 (sse 2), aI cI s22 7 (sto 2), aI cI s23 60 (sre 2), oL s3 s31 s32 s33 (sf 3), aI cI s31 3 (sse 3), aI cI s32 7 (sto 3), aI cI s33 60 (sre 3), oL h h1 h2 h3 f, aI cI h1 3 se, aI cI h2 7 to, aI cI h3 60 re, oP z1 pf, oT y1 y2 tf, aC cC y2 60 ch, oL o o1 o2 o3 of, aI cI o1 3 ose, aI cI o2 7 oto, aI cI o3 60 ore, oK t1 kf] := hD
          refine lv_aload_n hx hb dX5_count_79 rfl (lv_at hl 0 rfl) ?_
          refine ag_getX5 (v := .ref h) hx hb hG hown hK hP 0 0 rfl (by decide) k_176 rfl dX5_count_80 ?_
          refine ag_callVi (As := []) (rest := [.int (sr_X1_lastDay f)]) hx hb hml hown hG hK hN hA hP hD hS hl (ct_X1_firstDay l D cI cC cL h h1 h2 h3 f se to re) fX1_firstDay k_231 (ag_cut_1 [oX x0 h o t1 x1 y1 z1, oH x1 x2 hf, aL cL x2 (gS s0 s1 s2 s3), oL s0 s01 s02 s03 (sf 0), aI cI s01 3 (sse 0), aI cI s02 7 (sto 0), aI cI s03 60 (sre 0), oL s1 s11 s12 s13 (sf 1), aI cI s11 3 (sse 1), aI cI s12 7 (sto 1), aI cI s13 60 (sre 1), oL s2 s21 s22 s23 (sf 2), aI cI s21 3 (sse 2), aI cI s22 7 (sto 2), aI cI s23 60 (sre 2), oL s3 s31 s32 s33 (sf 3), aI cI s31 3 (sse 3), aI cI s32 7 (sto 3), aI cI s33 60 (sre 3)] [oP z1 pf, oT y1 y2 tf, aC cC y2 60 ch, oL o o1 o2 o3 of, aI cI o1 3 ose, aI cI o2 7 oto, aI cI o3 60 ore, oK t1 kf] rfl) (q0 := 19) rfl rfl rfl rfl (Nat.le_of_ble_eq_true rfl) ⟨Nat.le_of_ble_eq_true rfl, Nat.le_of_ble_eq_true rfl⟩ ⟨Nat.zero_le _, Nat.zero_le _⟩ dX5_count_83 (fun r w1 H locs hw hP hD hS => ?_)
          obtain ⟨rfl, hw⟩ := hw
          subst hw
          have hP : va_P D vwCl [oX x0 h o t1 x1 y1 z1, oH x1 x2 hf, aL cL x2 (gS s0 s1 s2 s3), oL s0 s01 s02 s03 (sf 0), aI cI s01 3 (sse 0), aI cI s02 7 (sto 0), aI cI s03 60 (sre 0), oL s1 s11 s12 s13 (sf 1), aI cI s11 3 (sse 1), aI cI s12 7 (sto 1), aI cI s13 60 (sre 1), oL s2 s21 s22 s23 (sf 2), aI cI s21 3 (sse 2), aI cI s22 7 (sto 2), aI cI s23 60 (sre 2), oL s3 s31 s32 s33 (sf 3), aI cI s31 3 (sse 3), aI cI s32 7 (sto 3), aI cI s33 60 (sre 3), oL h h1 h2 h3 f, aI cI h1 3 se, aI cI h2 7 to, aI cI h3 60 re, oP z1 pf, oT y1 y2 tf, aC cC y2 60 ch, oL o o1 o2 o3 of, aI cI o1 3 ose, aI cI o2 7 oto, aI cI o3 60 ore, oK t1 kf] H := hP
          have hD : va_D A [oX x0 h o t1 x1 y1 z1, oH x1 x2 hf, aL cL x2 (gS s0 s1 s2 s3), oL s0 s01 s02 s03 (sf 0), aI cI s01 3 (sse 0), aI cI s02 7 (sto 0), aI cI s03 60 (sre 0), oL s1 s11 s12 s13 (sf 1), aI cI s11 3 (sse 1), aI cI s12 7 (sto 1), aI cI s13 60 (sre 1), oL s2 s21 s22 s23 (sf 2), aI cI s21 3 (sse 2), aI cI s22 7 (sto 2), aI cI s23 60 (sre 2), oL s3 s31 s32 s33 (sf 3), aI cI s31 3 (sse 3), aI cI s32 7 (sto 3), aI cI s33 60 (sre 3), oL h h1 h2 h3 f, aI cI h1 3 se, aI cI h2 7 to, aI cI h3 60 re, oP z1 pf, oT y1 y2 tf, aC cC y2 60 ch, oL o o1 o2 o3 of, aI cI o1 3 ose, aI cI o2 7 oto, aI cI o3 60 ore, oK t1 kf] := hD
          refine lv_isub hx hb dX5_count_86 ?_
          refine lv_iconst (v := 1) hx hb dX5_count_87 (by decide) ?_
          refine lv_iadd hx hb dX5_count_88 ?_
          exact ag_iret [x0, x1, x2, s0, s01, s02, s03, s1, s11, s12, s13, s2, s21, s22, s23, s3, s31, s32, s33, h, h1, h2, h3, z1, y1, y2, o, o1, o2, o3, t1] hx hb hr rfl hlocks hP hS rfl rfl ⟨(by unfold sr_X5_count; rw [if_pos c_1, if_neg c_23, if_pos c_29, if_pos c_46_7]), rfl⟩ dX5_count_89
        · by_cases c_46_8 : p1 = 8
          · refine lv_tableIn (off := 44) (tgt := 90) hx hb dX5_count_46 (by rw [c_46_8]; decide) (by rw [c_46_8]; decide) (by rw [c_46_8]; rfl) (by decide) ?_
            refine lv_aload_n hx hb dX5_count_90 rfl (lv_at hl 0 rfl) ?_
            refine ag_getX5 (v := .ref x1) hx hb hG hown hK hP 0 3 rfl (by decide) k_179 rfl dX5_count_91 ?_
            refine ag_getX0 (v := .int (hf 1)) hx hb hG hown hK hP 1 2 rfl (by decide) k_131 rfl dX5_count_94 ?_
            exact ag_iret [x0, x1, x2, s0, s01, s02, s03, s1, s11, s12, s13, s2, s21, s22, s23, s3, s31, s32, s33, h, h1, h2, h3, z1, y1, y2, o, o1, o2, o3, t1] hx hb hr rfl hlocks hP hS rfl rfl ⟨(by unfold sr_X5_count; rw [if_pos c_1, if_neg c_23, if_pos c_29, if_neg c_46_7, if_pos c_46_8]), rfl⟩ dX5_count_97
          · by_cases c_46_9 : p1 = 9
            · refine lv_tableIn (off := 52) (tgt := 98) hx hb dX5_count_46 (by rw [c_46_9]; decide) (by rw [c_46_9]; decide) (by rw [c_46_9]; rfl) (by decide) ?_
              refine lv_aload_n hx hb dX5_count_98 rfl (lv_at hl 0 rfl) ?_
              refine ag_getX5 (v := .ref y1) hx hb hG hown hK hP 0 4 rfl (by decide) k_180 rfl dX5_count_99 ?_
              refine ag_getX3 (v := .int (tf 0)) hx hb hG hown hK hP 24 1 rfl (by decide) k_146 rfl dX5_count_102 ?_
              exact ag_iret [x0, x1, x2, s0, s01, s02, s03, s1, s11, s12, s13, s2, s21, s22, s23, s3, s31, s32, s33, h, h1, h2, h3, z1, y1, y2, o, o1, o2, o3, t1] hx hb hr rfl hlocks hP hS rfl rfl ⟨(by unfold sr_X5_count; rw [if_pos c_1, if_neg c_23, if_pos c_29, if_neg c_46_7, if_neg c_46_8, if_pos c_46_9]), rfl⟩ dX5_count_105
            · refine lv_tableOut (tgt := 106) hx hb dX5_count_46 (by have h0 := lv_neT c_46_7 (a := 7) rfl; have h1 := lv_neT c_46_8 (a := 8) rfl; have h2 := lv_neT c_46_9 (a := 9) rfl; omega) (by decide) ?_
              refine lv_ldc (v := (-1000000001)) hx hb hown (hG _ k_219) dX5_count_106 ?_
              exact ag_iret [x0, x1, x2, s0, s01, s02, s03, s1, s11, s12, s13, s2, s21, s22, s23, s3, s31, s32, s33, h, h1, h2, h3, z1, y1, y2, o, o1, o2, o3, t1] hx hb hr rfl hlocks hP hS rfl rfl ⟨(by unfold sr_X5_count; rw [if_pos c_1, if_neg c_23, if_pos c_29, if_neg c_46_7, if_neg c_46_8, if_neg c_46_9]), rfl⟩ dX5_count_108
      · refine lv_aload_n hx hb dX5_count_32 rfl (lv_at hl 0 rfl) ?_
        refine ag_getX5 (v := .ref h) hx hb hG hown hK hP 0 0 rfl (by decide) k_176 rfl dX5_count_33 ?_
        refine ag_getX1 (v := .ref h1) hx hb hG hown hK hP 19 8 rfl (by decide) k_51 rfl dX5_count_36 ?_
        refine lv_iload_n hx hb dX5_count_39 rfl (lv_at hl 1 rfl) ?_
        refine lv_bipush (v := 20) hx hb dX5_count_40 (by decide) ?_
        refine lv_isub hx hb dX5_count_42 ?_
        refine ag_ild (k := (p1 - 20).toNatClampNeg) (v := se ((p1 - 20).toNatClampNeg)) hx hb hK hP 20 rfl (ag_cnt c_23 c_29).1 (ag_cnt c_23 c_29).2 (Nat.le_of_ble_eq_true rfl) rfl dX5_count_43 ?_
        exact ag_iret [x0, x1, x2, s0, s01, s02, s03, s1, s11, s12, s13, s2, s21, s22, s23, s3, s31, s32, s33, h, h1, h2, h3, z1, y1, y2, o, o1, o2, o3, t1] hx hb hr rfl hlocks hP hS rfl rfl ⟨(by unfold sr_X5_count; rw [if_pos c_1, if_neg c_23, if_neg c_29]), rfl⟩ dX5_count_44
  · refine lv_iload_n hx hb dX5_count_4 rfl (lv_at hl 1 rfl) ?_
    refine lv_bipush (v := 7) hx hb dX5_count_5 (by decide) ?_
    refine lv_icmp_ge (tgt := 20) hx hb dX5_count_7 (by decide) (fun c_7 => ?_) (fun c_7 => ?_)
    · refine lv_iload_n hx hb dX5_count_20 rfl (lv_at hl 1 rfl) ?_
      refine lv_bipush (v := 20) hx hb dX5_count_21 (by decide) ?_
      refine lv_icmp_lt (tgt := 45) hx hb dX5_count_23 (by decide) (fun c_23 => ?_) (fun c_23 => ?_)
      · refine lv_iload_n hx hb dX5_count_45 rfl (lv_at hl 1 rfl) ?_
        by_cases c_46_7 : p1 = 7
        · refine lv_tableIn (off := 26) (tgt := 72) hx hb dX5_count_46 (by rw [c_46_7]; decide) (by rw [c_46_7]; decide) (by rw [c_46_7]; rfl) (by decide) ?_
          refine lv_aload_n hx hb dX5_count_72 rfl (lv_at hl 0 rfl) ?_
          refine ag_getX5 (v := .ref h) hx hb hG hown hK hP 0 0 rfl (by decide) k_176 rfl dX5_count_73 ?_
          refine ag_callVi (As := []) (rest := []) hx hb hml hown hG hK hN hA hP hD hS hl (ct_X1_lastDay l D cI cC cL h h1 h2 h3 f se to re) fX1_lastDay k_224 (ag_cut_1 [oX x0 h o t1 x1 y1 z1, oH x1 x2 hf, aL cL x2 (gS s0 s1 s2 s3), oL s0 s01 s02 s03 (sf 0), aI cI s01 3 (sse 0), aI cI s02 7 (sto 0), aI cI s03 60 (sre 0), oL s1 s11 s12 s13 (sf 1), aI cI s11 3 (sse 1), aI cI s12 7 (sto 1), aI cI s13 60 (sre 1), oL s2 s21 s22 s23 (sf 2), aI cI s21 3 (sse 2), aI cI s22 7 (sto 2), aI cI s23 60 (sre 2), oL s3 s31 s32 s33 (sf 3), aI cI s31 3 (sse 3), aI cI s32 7 (sto 3), aI cI s33 60 (sre 3)] [oP z1 pf, oT y1 y2 tf, aC cC y2 60 ch, oL o o1 o2 o3 of, aI cI o1 3 ose, aI cI o2 7 oto, aI cI o3 60 ore, oK t1 kf] rfl) (q0 := 19) rfl rfl rfl rfl (Nat.le_of_ble_eq_true rfl) ⟨Nat.le_of_ble_eq_true rfl, Nat.le_of_ble_eq_true rfl⟩ ⟨Nat.zero_le _, Nat.zero_le _⟩ dX5_count_76 (fun r w1 H locs hw hP hD hS => ?_)
          obtain ⟨rfl, hw⟩ := hw
          subst hw
          have hP : va_P D vwCl [oX x0 h o t1 x1 y1 z1, oH x1 x2 hf, aL cL x2 (gS s0 s1 s2 s3), oL s0 s01 s02 s03 (sf 0), aI cI s01 3 (sse 0), aI cI s02 7 (sto 0), aI cI s03 60 (sre 0), oL s1 s11 s12 s13 (sf 1), aI cI s11 3 (sse 1), aI cI s12 7 (sto 1), aI cI s13 60 (sre 1), oL s2 s21 s22 s23 (sf 2), aI cI s21 3 (sse 2), aI cI s22 7 (sto 2), aI cI s23 60 (sre 2), oL s3 s31 s32 s33 (sf 3), aI cI s31 3 (sse 3), aI cI s32 7 (sto 3), aI cI s33 60 (sre 3), oL h h1 h2 h3 f, aI cI h1 3 se, aI cI h2 7 to, aI cI h3 60 re, oP z1 pf, oT y1 y2 tf, aC cC y2 60 ch, oL o o1 o2 o3 of, aI cI o1 3 ose, aI cI o2 7 oto, aI cI o3 60 ore, oK t1 kf] H := hP
          have hD : va_D A [oX x0 h o t1 x1 y1 z1, oH x1 x2 hf, aL cL x2 (gS s0 s1 s2 s3), oL s0 s01 s02 s03 (sf 0), aI cI s01 3 (sse 0), aI cI s02 7 (sto 0), aI cI s03 60 (sre 0), oL s1 s11 s12 s13 (sf 1), aI cI s11 3 (sse 1), aI cI s12 7 (sto 1), aI cI s13 60 (sre 1), oL s2 s21 s22 s23 (sf 2), aI cI s21 3 (sse 2), aI cI s22 7 (sto 2), aI cI s23 60 (sre 2), oL s3 s31 s32 s33 (sf 3), aI cI s31 3 (sse 3), aI cI s32 7 (sto 3), aI cI s33 60 (sre 3), oL h h1 h2 h3 f, aI cI h1 3 se, aI cI h2 7 to, aI cI h3 60 re, oP z1 pf, oT y1 y2 tf, aC cC y2 60 ch, oL o o1 o2 o3 of, aI cI o1 3 ose, aI cI o2 7 oto, aI cI o3 60 ore, oK t1 kf] := hD
          refine lv_aload_n hx hb dX5_count_79 rfl (lv_at hl 0 rfl) ?_
          refine ag_getX5 (v := .ref h) hx hb hG hown hK hP 0 0 rfl (by decide) k_176 rfl dX5_count_80 ?_
          refine ag_callVi (As := []) (rest := [.int (sr_X1_lastDay f)]) hx hb hml hown hG hK hN hA hP hD hS hl (ct_X1_firstDay l D cI cC cL h h1 h2 h3 f se to re) fX1_firstDay k_231 (ag_cut_1 [oX x0 h o t1 x1 y1 z1, oH x1 x2 hf, aL cL x2 (gS s0 s1 s2 s3), oL s0 s01 s02 s03 (sf 0), aI cI s01 3 (sse 0), aI cI s02 7 (sto 0), aI cI s03 60 (sre 0), oL s1 s11 s12 s13 (sf 1), aI cI s11 3 (sse 1), aI cI s12 7 (sto 1), aI cI s13 60 (sre 1), oL s2 s21 s22 s23 (sf 2), aI cI s21 3 (sse 2), aI cI s22 7 (sto 2), aI cI s23 60 (sre 2), oL s3 s31 s32 s33 (sf 3), aI cI s31 3 (sse 3), aI cI s32 7 (sto 3), aI cI s33 60 (sre 3)] [oP z1 pf, oT y1 y2 tf, aC cC y2 60 ch, oL o o1 o2 o3 of, aI cI o1 3 ose, aI cI o2 7 oto, aI cI o3 60 ore, oK t1 kf] rfl) (q0 := 19) rfl rfl rfl rfl (Nat.le_of_ble_eq_true rfl) ⟨Nat.le_of_ble_eq_true rfl, Nat.le_of_ble_eq_true rfl⟩ ⟨Nat.zero_le _, Nat.zero_le _⟩ dX5_count_83 (fun r w1 H locs hw hP hD hS => ?_)
          obtain ⟨rfl, hw⟩ := hw
          subst hw
          have hP : va_P D vwCl [oX x0 h o t1 x1 y1 z1, oH x1 x2 hf, aL cL x2 (gS s0 s1 s2 s3), oL s0 s01 s02 s03 (sf 0), aI cI s01 3 (sse 0), aI cI s02 7 (sto 0), aI cI s03 60 (sre 0), oL s1 s11 s12 s13 (sf 1), aI cI s11 3 (sse 1), aI cI s12 7 (sto 1), aI cI s13 60 (sre 1), oL s2 s21 s22 s23 (sf 2), aI cI s21 3 (sse 2), aI cI s22 7 (sto 2), aI cI s23 60 (sre 2), oL s3 s31 s32 s33 (sf 3), aI cI s31 3 (sse 3), aI cI s32 7 (sto 3), aI cI s33 60 (sre 3), oL h h1 h2 h3 f, aI cI h1 3 se, aI cI h2 7 to, aI cI h3 60 re, oP z1 pf, oT y1 y2 tf, aC cC y2 60 ch, oL o o1 o2 o3 of, aI cI o1 3 ose, aI cI o2 7 oto, aI cI o3 60 ore, oK t1 kf] H := hP
          have hD : va_D A [oX x0 h o t1 x1 y1 z1, oH x1 x2 hf, aL cL x2 (gS s0 s1 s2 s3), oL s0 s01 s02 s03 (sf 0), aI cI s01 3 (sse 0), aI cI s02 7 (sto 0), aI cI s03 60 (sre 0), oL s1 s11 s12 s13 (sf 1), aI cI s11 3 (sse 1), aI cI s12 7 (sto 1), aI cI s13 60 (sre 1), oL s2 s21 s22 s23 (sf 2), aI cI s21 3 (sse 2), aI cI s22 7 (sto 2), aI cI s23 60 (sre 2), oL s3 s31 s32 s33 (sf 3), aI cI s31 3 (sse 3), aI cI s32 7 (sto 3), aI cI s33 60 (sre 3), oL h h1 h2 h3 f, aI cI h1 3 se, aI cI h2 7 to, aI cI h3 60 re, oP z1 pf, oT y1 y2 tf, aC cC y2 60 ch, oL o o1 o2 o3 of, aI cI o1 3 ose, aI cI o2 7 oto, aI cI o3 60 ore, oK t1 kf] := hD
          refine lv_isub hx hb dX5_count_86 ?_
          refine lv_iconst (v := 1) hx hb dX5_count_87 (by decide) ?_
          refine lv_iadd hx hb dX5_count_88 ?_
          exact ag_iret [x0, x1, x2, s0, s01, s02, s03, s1, s11, s12, s13, s2, s21, s22, s23, s3, s31, s32, s33, h, h1, h2, h3, z1, y1, y2, o, o1, o2, o3, t1] hx hb hr rfl hlocks hP hS rfl rfl ⟨(by unfold sr_X5_count; rw [if_neg c_1, if_pos c_7, if_pos c_23, if_pos c_46_7]), rfl⟩ dX5_count_89
        · by_cases c_46_8 : p1 = 8
          · refine lv_tableIn (off := 44) (tgt := 90) hx hb dX5_count_46 (by rw [c_46_8]; decide) (by rw [c_46_8]; decide) (by rw [c_46_8]; rfl) (by decide) ?_
            refine lv_aload_n hx hb dX5_count_90 rfl (lv_at hl 0 rfl) ?_
            refine ag_getX5 (v := .ref x1) hx hb hG hown hK hP 0 3 rfl (by decide) k_179 rfl dX5_count_91 ?_
            refine ag_getX0 (v := .int (hf 1)) hx hb hG hown hK hP 1 2 rfl (by decide) k_131 rfl dX5_count_94 ?_
            exact ag_iret [x0, x1, x2, s0, s01, s02, s03, s1, s11, s12, s13, s2, s21, s22, s23, s3, s31, s32, s33, h, h1, h2, h3, z1, y1, y2, o, o1, o2, o3, t1] hx hb hr rfl hlocks hP hS rfl rfl ⟨(by unfold sr_X5_count; rw [if_neg c_1, if_pos c_7, if_pos c_23, if_neg c_46_7, if_pos c_46_8]), rfl⟩ dX5_count_97
          · by_cases c_46_9 : p1 = 9
            · refine lv_tableIn (off := 52) (tgt := 98) hx hb dX5_count_46 (by rw [c_46_9]; decide) (by rw [c_46_9]; decide) (by rw [c_46_9]; rfl) (by decide) ?_
              refine lv_aload_n hx hb dX5_count_98 rfl (lv_at hl 0 rfl) ?_
              refine ag_getX5 (v := .ref y1) hx hb hG hown hK hP 0 4 rfl (by decide) k_180 rfl dX5_count_99 ?_
              refine ag_getX3 (v := .int (tf 0)) hx hb hG hown hK hP 24 1 rfl (by decide) k_146 rfl dX5_count_102 ?_
              exact ag_iret [x0, x1, x2, s0, s01, s02, s03, s1, s11, s12, s13, s2, s21, s22, s23, s3, s31, s32, s33, h, h1, h2, h3, z1, y1, y2, o, o1, o2, o3, t1] hx hb hr rfl hlocks hP hS rfl rfl ⟨(by unfold sr_X5_count; rw [if_neg c_1, if_pos c_7, if_pos c_23, if_neg c_46_7, if_neg c_46_8, if_pos c_46_9]), rfl⟩ dX5_count_105
            · refine lv_tableOut (tgt := 106) hx hb dX5_count_46 (by have h0 := lv_neT c_46_7 (a := 7) rfl; have h1 := lv_neT c_46_8 (a := 8) rfl; have h2 := lv_neT c_46_9 (a := 9) rfl; omega) (by decide) ?_
              refine lv_ldc (v := (-1000000001)) hx hb hown (hG _ k_219) dX5_count_106 ?_
              exact ag_iret [x0, x1, x2, s0, s01, s02, s03, s1, s11, s12, s13, s2, s21, s22, s23, s3, s31, s32, s33, h, h1, h2, h3, z1, y1, y2, o, o1, o2, o3, t1] hx hb hr rfl hlocks hP hS rfl rfl ⟨(by unfold sr_X5_count; rw [if_neg c_1, if_pos c_7, if_pos c_23, if_neg c_46_7, if_neg c_46_8, if_neg c_46_9]), rfl⟩ dX5_count_108
      · refine lv_iload_n hx hb dX5_count_26 rfl (lv_at hl 1 rfl) ?_
        refine lv_bipush (v := 23) hx hb dX5_count_27 (by decide) ?_
        refine lv_icmp_ge (tgt := 45) hx hb dX5_count_29 (by decide) (fun c_29 => ?_) (fun c_29 => ?_)
        · refine lv_iload_n hx hb dX5_count_45 rfl (lv_at hl 1 rfl) ?_
          by_cases c_46_7 : p1 = 7
          · refine lv_tableIn (off := 26) (tgt := 72) hx hb dX5_count_46 (by rw [c_46_7]; decide) (by rw [c_46_7]; decide) (by rw [c_46_7]; rfl) (by decide) ?_
            refine lv_aload_n hx hb dX5_count_72 rfl (lv_at hl 0 rfl) ?_
            refine ag_getX5 (v := .ref h) hx hb hG hown hK hP 0 0 rfl (by decide) k_176 rfl dX5_count_73 ?_
            refine ag_callVi (As := []) (rest := []) hx hb hml hown hG hK hN hA hP hD hS hl (ct_X1_lastDay l D cI cC cL h h1 h2 h3 f se to re) fX1_lastDay k_224 (ag_cut_1 [oX x0 h o t1 x1 y1 z1, oH x1 x2 hf, aL cL x2 (gS s0 s1 s2 s3), oL s0 s01 s02 s03 (sf 0), aI cI s01 3 (sse 0), aI cI s02 7 (sto 0), aI cI s03 60 (sre 0), oL s1 s11 s12 s13 (sf 1), aI cI s11 3 (sse 1), aI cI s12 7 (sto 1), aI cI s13 60 (sre 1), oL s2 s21 s22 s23 (sf 2), aI cI s21 3 (sse 2), aI cI s22 7 (sto 2), aI cI s23 60 (sre 2), oL s3 s31 s32 s33 (sf 3), aI cI s31 3 (sse 3), aI cI s32 7 (sto 3), aI cI s33 60 (sre 3)] [oP z1 pf, oT y1 y2 tf, aC cC y2 60 ch, oL o o1 o2 o3 of, aI cI o1 3 ose, aI cI o2 7 oto, aI cI o3 60 ore, oK t1 kf] rfl) (q0 := 19) rfl rfl rfl rfl (Nat.le_of_ble_eq_true rfl) ⟨Nat.le_of_ble_eq_true rfl, Nat.le_of_ble_eq_true rfl⟩ ⟨Nat.zero_le _, Nat.zero_le _⟩ dX5_count_76 (fun r w1 H locs hw hP hD hS => ?_)
            obtain ⟨rfl, hw⟩ := hw
            subst hw
            have hP : va_P D vwCl [oX x0 h o t1 x1 y1 z1, oH x1 x2 hf, aL cL x2 (gS s0 s1 s2 s3), oL s0 s01 s02 s03 (sf 0), aI cI s01 3 (sse 0), aI cI s02 7 (sto 0), aI cI s03 60 (sre 0), oL s1 s11 s12 s13 (sf 1), aI cI s11 3 (sse 1), aI cI s12 7 (sto 1), aI cI s13 60 (sre 1), oL s2 s21 s22 s23 (sf 2), aI cI s21 3 (sse 2), aI cI s22 7 (sto 2), aI cI s23 60 (sre 2), oL s3 s31 s32 s33 (sf 3), aI cI s31 3 (sse 3), aI cI s32 7 (sto 3), aI cI s33 60 (sre 3), oL h h1 h2 h3 f, aI cI h1 3 se, aI cI h2 7 to, aI cI h3 60 re, oP z1 pf, oT y1 y2 tf, aC cC y2 60 ch, oL o o1 o2 o3 of, aI cI o1 3 ose, aI cI o2 7 oto, aI cI o3 60 ore, oK t1 kf] H := hP
            have hD : va_D A [oX x0 h o t1 x1 y1 z1, oH x1 x2 hf, aL cL x2 (gS s0 s1 s2 s3), oL s0 s01 s02 s03 (sf 0), aI cI s01 3 (sse 0), aI cI s02 7 (sto 0), aI cI s03 60 (sre 0), oL s1 s11 s12 s13 (sf 1), aI cI s11 3 (sse 1), aI cI s12 7 (sto 1), aI cI s13 60 (sre 1), oL s2 s21 s22 s23 (sf 2), aI cI s21 3 (sse 2), aI cI s22 7 (sto 2), aI cI s23 60 (sre 2), oL s3 s31 s32 s33 (sf 3), aI cI s31 3 (sse 3), aI cI s32 7 (sto 3), aI cI s33 60 (sre 3), oL h h1 h2 h3 f, aI cI h1 3 se, aI cI h2 7 to, aI cI h3 60 re, oP z1 pf, oT y1 y2 tf, aC cC y2 60 ch, oL o o1 o2 o3 of, aI cI o1 3 ose, aI cI o2 7 oto, aI cI o3 60 ore, oK t1 kf] := hD
            refine lv_aload_n hx hb dX5_count_79 rfl (lv_at hl 0 rfl) ?_
            refine ag_getX5 (v := .ref h) hx hb hG hown hK hP 0 0 rfl (by decide) k_176 rfl dX5_count_80 ?_
            refine ag_callVi (As := []) (rest := [.int (sr_X1_lastDay f)]) hx hb hml hown hG hK hN hA hP hD hS hl (ct_X1_firstDay l D cI cC cL h h1 h2 h3 f se to re) fX1_firstDay k_231 (ag_cut_1 [oX x0 h o t1 x1 y1 z1, oH x1 x2 hf, aL cL x2 (gS s0 s1 s2 s3), oL s0 s01 s02 s03 (sf 0), aI cI s01 3 (sse 0), aI cI s02 7 (sto 0), aI cI s03 60 (sre 0), oL s1 s11 s12 s13 (sf 1), aI cI s11 3 (sse 1), aI cI s12 7 (sto 1), aI cI s13 60 (sre 1), oL s2 s21 s22 s23 (sf 2), aI cI s21 3 (sse 2), aI cI s22 7 (sto 2), aI cI s23 60 (sre 2), oL s3 s31 s32 s33 (sf 3), aI cI s31 3 (sse 3), aI cI s32 7 (sto 3), aI cI s33 60 (sre 3)] [oP z1 pf, oT y1 y2 tf, aC cC y2 60 ch, oL o o1 o2 o3 of, aI cI o1 3 ose, aI cI o2 7 oto, aI cI o3 60 ore, oK t1 kf] rfl) (q0 := 19) rfl rfl rfl rfl (Nat.le_of_ble_eq_true rfl) ⟨Nat.le_of_ble_eq_true rfl, Nat.le_of_ble_eq_true rfl⟩ ⟨Nat.zero_le _, Nat.zero_le _⟩ dX5_count_83 (fun r w1 H locs hw hP hD hS => ?_)
            obtain ⟨rfl, hw⟩ := hw
            subst hw
            have hP : va_P D vwCl [oX x0 h o t1 x1 y1 z1, oH x1 x2 hf, aL cL x2 (gS s0 s1 s2 s3), oL s0 s01 s02 s03 (sf 0), aI cI s01 3 (sse 0), aI cI s02 7 (sto 0), aI cI s03 60 (sre 0), oL s1 s11 s12 s13 (sf 1), aI cI s11 3 (sse 1), aI cI s12 7 (sto 1), aI cI s13 60 (sre 1), oL s2 s21 s22 s23 (sf 2), aI cI s21 3 (sse 2), aI cI s22 7 (sto 2), aI cI s23 60 (sre 2), oL s3 s31 s32 s33 (sf 3), aI cI s31 3 (sse 3), aI cI s32 7 (sto 3), aI cI s33 60 (sre 3), oL h h1 h2 h3 f, aI cI h1 3 se, aI cI h2 7 to, aI cI h3 60 re, oP z1 pf, oT y1 y2 tf, aC cC y2 60 ch, oL o o1 o2 o3 of, aI cI o1 3 ose, aI cI o2 7 oto, aI cI o3 60 ore, oK t1 kf] H := hP
            have hD : va_D A [oX x0 h o t1 x1 y1 z1, oH x1 x2 hf, aL cL x2 (gS s0 s1 s2 s3), oL s0 s01 s02 s03 (sf 0), aI cI s01 3 (sse 0), aI cI s02 7 (sto 0), aI cI s03 60 (sre 0), oL s1 s11 s12 s13 (sf 1), aI cI s11 3 (sse 1), aI cI s12 7 (sto 1), aI cI s13 60 (sre 1), oL s2 s21 s22 s23 (sf 2), aI cI s21 3 (sse 2), aI cI s22 7 (sto 2), aI cI s23 60 (sre 2), oL s3 s31 s32 s33 (sf 3), aI cI s31 3 (sse 3), aI cI s32 7 (sto 3), aI cI s33 60 (sre 3), oL h h1 h2 h3 f, aI cI h1 3 se, aI cI h2 7 to, aI cI h3 60 re, oP z1 pf, oT y1 y2 tf, aC cC y2 60 ch, oL o o1 o2 o3 of, aI cI o1 3 ose, aI cI o2 7 oto, aI cI o3 60 ore, oK t1 kf] := hD
            refine lv_isub hx hb dX5_count_86 ?_
            refine lv_iconst (v := 1) hx hb dX5_count_87 (by decide) ?_
            refine lv_iadd hx hb dX5_count_88 ?_
            exact ag_iret [x0, x1, x2, s0, s01, s02, s03, s1, s11, s12, s13, s2, s21, s22, s23, s3, s31, s32, s33, h, h1, h2, h3, z1, y1, y2, o, o1, o2, o3, t1] hx hb hr rfl hlocks hP hS rfl rfl ⟨(by unfold sr_X5_count; rw [if_neg c_1, if_pos c_7, if_neg c_23, if_pos c_29, if_pos c_46_7]), rfl⟩ dX5_count_89
          · by_cases c_46_8 : p1 = 8
            · refine lv_tableIn (off := 44) (tgt := 90) hx hb dX5_count_46 (by rw [c_46_8]; decide) (by rw [c_46_8]; decide) (by rw [c_46_8]; rfl) (by decide) ?_
              refine lv_aload_n hx hb dX5_count_90 rfl (lv_at hl 0 rfl) ?_
              refine ag_getX5 (v := .ref x1) hx hb hG hown hK hP 0 3 rfl (by decide) k_179 rfl dX5_count_91 ?_
              refine ag_getX0 (v := .int (hf 1)) hx hb hG hown hK hP 1 2 rfl (by decide) k_131 rfl dX5_count_94 ?_
              exact ag_iret [x0, x1, x2, s0, s01, s02, s03, s1, s11, s12, s13, s2, s21, s22, s23, s3, s31, s32, s33, h, h1, h2, h3, z1, y1, y2, o, o1, o2, o3, t1] hx hb hr rfl hlocks hP hS rfl rfl ⟨(by unfold sr_X5_count; rw [if_neg c_1, if_pos c_7, if_neg c_23, if_pos c_29, if_neg c_46_7, if_pos c_46_8]), rfl⟩ dX5_count_97
            · by_cases c_46_9 : p1 = 9
              · refine lv_tableIn (off := 52) (tgt := 98) hx hb dX5_count_46 (by rw [c_46_9]; decide) (by rw [c_46_9]; decide) (by rw [c_46_9]; rfl) (by decide) ?_
                refine lv_aload_n hx hb dX5_count_98 rfl (lv_at hl 0 rfl) ?_
                refine ag_getX5 (v := .ref y1) hx hb hG hown hK hP 0 4 rfl (by decide) k_180 rfl dX5_count_99 ?_
                refine ag_getX3 (v := .int (tf 0)) hx hb hG hown hK hP 24 1 rfl (by decide) k_146 rfl dX5_count_102 ?_
                exact ag_iret [x0, x1, x2, s0, s01, s02, s03, s1, s11, s12, s13, s2, s21, s22, s23, s3, s31, s32, s33, h, h1, h2, h3, z1, y1, y2, o, o1, o2, o3, t1] hx hb hr rfl hlocks hP hS rfl rfl ⟨(by unfold sr_X5_count; rw [if_neg c_1, if_pos c_7, if_neg c_23, if_pos c_29, if_neg c_46_7, if_neg c_46_8, if_pos c_46_9]), rfl⟩ dX5_count_105
              · refine lv_tableOut (tgt := 106) hx hb dX5_count_46 (by have h0 := lv_neT c_46_7 (a := 7) rfl; have h1 := lv_neT c_46_8 (a := 8) rfl; have h2 := lv_neT c_46_9 (a := 9) rfl; omega) (by decide) ?_
                refine lv_ldc (v := (-1000000001)) hx hb hown (hG _ k_219) dX5_count_106 ?_
                exact ag_iret [x0, x1, x2, s0, s01, s02, s03, s1, s11, s12, s13, s2, s21, s22, s23, s3, s31, s32, s33, h, h1, h2, h3, z1, y1, y2, o, o1, o2, o3, t1] hx hb hr rfl hlocks hP hS rfl rfl ⟨(by unfold sr_X5_count; rw [if_neg c_1, if_pos c_7, if_neg c_23, if_pos c_29, if_neg c_46_7, if_neg c_46_8, if_neg c_46_9]), rfl⟩ dX5_count_108
        · refine lv_aload_n hx hb dX5_count_32 rfl (lv_at hl 0 rfl) ?_
          refine ag_getX5 (v := .ref h) hx hb hG hown hK hP 0 0 rfl (by decide) k_176 rfl dX5_count_33 ?_
          refine ag_getX1 (v := .ref h1) hx hb hG hown hK hP 19 8 rfl (by decide) k_51 rfl dX5_count_36 ?_
          refine lv_iload_n hx hb dX5_count_39 rfl (lv_at hl 1 rfl) ?_
          refine lv_bipush (v := 20) hx hb dX5_count_40 (by decide) ?_
          refine lv_isub hx hb dX5_count_42 ?_
          refine ag_ild (k := (p1 - 20).toNatClampNeg) (v := se ((p1 - 20).toNatClampNeg)) hx hb hK hP 20 rfl (ag_cnt c_23 c_29).1 (ag_cnt c_23 c_29).2 (Nat.le_of_ble_eq_true rfl) rfl dX5_count_43 ?_
          exact ag_iret [x0, x1, x2, s0, s01, s02, s03, s1, s11, s12, s13, s2, s21, s22, s23, s3, s31, s32, s33, h, h1, h2, h3, z1, y1, y2, o, o1, o2, o3, t1] hx hb hr rfl hlocks hP hS rfl rfl ⟨(by unfold sr_X5_count; rw [if_neg c_1, if_pos c_7, if_neg c_23, if_neg c_29]), rfl⟩ dX5_count_44
    · refine lv_aload_n hx hb dX5_count_10 rfl (lv_at hl 0 rfl) ?_
      refine ag_getX5 (v := .ref h) hx hb hG hown hK hP 0 0 rfl (by decide) k_176 rfl dX5_count_11 ?_
      refine ag_getX1 (v := .ref h2) hx hb hG hown hK hP 19 9 rfl (by decide) k_53 rfl dX5_count_14 ?_
      refine lv_iload_n hx hb dX5_count_17 rfl (lv_at hl 1 rfl) ?_
      refine ag_ild (k := p1.toNatClampNeg) (v := to p1.toNatClampNeg) hx hb hK hP 21 rfl (ag_ixn (n := 7) (by decide) c_1 c_7).1 (ag_ixn (n := 7) (by decide) c_1 c_7).2 (Nat.le_of_ble_eq_true rfl) rfl dX5_count_18 ?_
      exact ag_iret [x0, x1, x2, s0, s01, s02, s03, s1, s11, s12, s13, s2, s21, s22, s23, s3, s31, s32, s33, h, h1, h2, h3, z1, y1, y2, o, o1, o2, o3, t1] hx hb hr rfl hlocks hP hS rfl rfl ⟨(by unfold sr_X5_count; rw [if_neg c_1, if_neg c_7]), rfl⟩ dX5_count_19
