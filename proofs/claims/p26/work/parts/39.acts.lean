/-! the law's acts -/
abbrev po_L_acts (cI cC cL : ClassId) (x0 ag ar ad h o t1 x1 y1 z1 x2 s0 s01 s02 s03 s1 s11 s12 s13 s2 s21 s22 s23 s3 s31 s32 s33 h1 h2 h3 y2 o1 o2 o3 : Nat) (hf f se to re pf tf ch of ose oto ore kf ug ur ud : Nat → Int32) (p1 : Int32) (sf : Nat → Nat → Int32) (sse : Nat → Nat → Int32) (sto : Nat → Nat → Int32) (sre : Nat → Nat → Int32) (hZ : PQ f se to re tf ug ur ud) : Int32 → va_W → Prop := fun r w' => r = 1 ∧ ∃ (hf f se to re pf tf ch of ose oto ore kf ug ur ud : Nat → Int32) (sf sse sto sre : Nat → Nat → Int32), [oX x0 h o t1 x1 y1 z1, oH x1 x2 hf, aL cL x2 (gS s0 s1 s2 s3), oL s0 s01 s02 s03 (sf 0), aI cI s01 3 (sse 0), aI cI s02 7 (sto 0), aI cI s03 60 (sre 0), oL s1 s11 s12 s13 (sf 1), aI cI s11 3 (sse 1), aI cI s12 7 (sto 1), aI cI s13 60 (sre 1), oL s2 s21 s22 s23 (sf 2), aI cI s21 3 (sse 2), aI cI s22 7 (sto 2), aI cI s23 60 (sre 2), oL s3 s31 s32 s33 (sf 3), aI cI s31 3 (sse 3), aI cI s32 7 (sto 3), aI cI s33 60 (sre 3), oL h h1 h2 h3 f, aI cI h1 3 se, aI cI h2 7 to, aI cI h3 60 re, oP z1 pf, oT y1 y2 tf, aC cC y2 60 ch, oL o o1 o2 o3 of, aI cI o1 3 ose, aI cI o2 7 oto, aI cI o3 60 ore, oK t1 kf, aI cI ag 18 ug, aI cI ar 60 ur, aI cI ad 10 ud] = w' ∧ PQ f se to re tf ug ur ud
set_option maxHeartbeats 4000000 in
set_option maxRecDepth 100000 in
theorem ct_L_acts (l : Launch) (D : va_G) (cI cC cL : ClassId) (x0 ag ar ad h o t1 x1 y1 z1 x2 s0 s01 s02 s03 s1 s11 s12 s13 s2 s21 s22 s23 s3 s31 s32 s33 h1 h2 h3 y2 o1 o2 o3 : Nat) (hf f se to re pf tf ch of ose oto ore kf ug ur ud : Nat → Int32) (p1 : Int32) (sf : Nat → Nat → Int32) (sse : Nat → Nat → Int32) (sto : Nat → Nat → Int32) (sre : Nat → Nat → Int32) (hZ : PQ f se to re tf ug ur ud) : ag_MIn l yL_acts cL_acts 9 .boolean 6 131 1 7 D cI cC cL [.ref x0, .ref ag, .ref ar, .ref ad, .int p1] [oX x0 h o t1 x1 y1 z1, oH x1 x2 hf, aL cL x2 (gS s0 s1 s2 s3), oL s0 s01 s02 s03 (sf 0), aI cI s01 3 (sse 0), aI cI s02 7 (sto 0), aI cI s03 60 (sre 0), oL s1 s11 s12 s13 (sf 1), aI cI s11 3 (sse 1), aI cI s12 7 (sto 1), aI cI s13 60 (sre 1), oL s2 s21 s22 s23 (sf 2), aI cI s21 3 (sse 2), aI cI s22 7 (sto 2), aI cI s23 60 (sre 2), oL s3 s31 s32 s33 (sf 3), aI cI s31 3 (sse 3), aI cI s32 7 (sto 3), aI cI s33 60 (sre 3), oL h h1 h2 h3 f, aI cI h1 3 se, aI cI h2 7 to, aI cI h3 60 re, oP z1 pf, oT y1 y2 tf, aC cC y2 60 ch, oL o o1 o2 o3 of, aI cI o1 3 ose, aI cI o2 7 oto, aI cI o3 60 ore, oK t1 kf, aI cI ag 18 ug, aI cI ar 60 ur, aI cI ad 10 ud] (po_L_acts cI cC cL x0 ag ar ad h o t1 x1 y1 z1 x2 s0 s01 s02 s03 s1 s11 s12 s13 s2 s21 s22 s23 s3 s31 s32 s33 h1 h2 h3 y2 o1 o2 o3 hf f se to re pf tf ch of ose oto ore kf ug ur ud p1 sf sse sto sre hZ) := by
  refine ag_MIn.of (plainFor_of_name (by decide)) (Nat.le_of_ble_eq_true rfl) ?_
  intro p e s m below meth c hx hb hr hlocks hml hown hmn hG hK A hN hA H locs hP hD hS ls hl
  have hl : lv_has ls 9 [(0, .ref x0), (1, .ref ag), (2, .ref ar), (3, .ref ad), (4, .int p1)] := hl
  obtain ⟨y, hy, ey⟩ := low_in (p1 >>> (5 &&& 31)) 10000000 (n := 10000000) (by decide) (by decide) rfl
  obtain ⟨⟨T, hT, hR⟩, hSZ, hTF⟩ := id hZ
  refine lv_iload hx hb dL_acts_0 (lv_at hl 4 rfl) ?_
  refine lv_iconst (v := 5) hx hb dL_acts_2 (by decide) ?_
  refine lv_ishr hx hb dL_acts_3 ?_
  refine lv_ldc (v := 10000000) hx hb hown (hG _ k_250) dL_acts_4 ?_
  refine ag_callSi (As := [.int (p1 >>> (5 &&& 31)), .int 10000000]) (rest := []) hx hb hml hown hG hK hN hA hP hD hS hl (ct_L_low l D cI cC cL (p1 >>> (5 &&& 31)) 10000000 (by decide)) fL_low k_243 ag_cut_0 rfl (Nat.le_of_ble_eq_true rfl) ⟨Nat.le_of_ble_eq_true rfl, Nat.le_of_ble_eq_true rfl⟩ ⟨Nat.zero_le _, Nat.zero_le _⟩ dL_acts_6 (fun r w1 H locs hw hP hD hS => ?_)
  obtain ⟨rfl, hw⟩ := hw
  subst hw
  have hP : va_P D vwCl [oX x0 h o t1 x1 y1 z1, oH x1 x2 hf, aL cL x2 (gS s0 s1 s2 s3), oL s0 s01 s02 s03 (sf 0), aI cI s01 3 (sse 0), aI cI s02 7 (sto 0), aI cI s03 60 (sre 0), oL s1 s11 s12 s13 (sf 1), aI cI s11 3 (sse 1), aI cI s12 7 (sto 1), aI cI s13 60 (sre 1), oL s2 s21 s22 s23 (sf 2), aI cI s21 3 (sse 2), aI cI s22 7 (sto 2), aI cI s23 60 (sre 2), oL s3 s31 s32 s33 (sf 3), aI cI s31 3 (sse 3), aI cI s32 7 (sto 3), aI cI s33 60 (sre 3), oL h h1 h2 h3 f, aI cI h1 3 se, aI cI h2 7 to, aI cI h3 60 re, oP z1 pf, oT y1 y2 tf, aC cC y2 60 ch, oL o o1 o2 o3 of, aI cI o1 3 ose, aI cI o2 7 oto, aI cI o3 60 ore, oK t1 kf, aI cI ag 18 ug, aI cI ar 60 ur, aI cI ad 10 ud] H := hP
  have hD : va_D A [oX x0 h o t1 x1 y1 z1, oH x1 x2 hf, aL cL x2 (gS s0 s1 s2 s3), oL s0 s01 s02 s03 (sf 0), aI cI s01 3 (sse 0), aI cI s02 7 (sto 0), aI cI s03 60 (sre 0), oL s1 s11 s12 s13 (sf 1), aI cI s11 3 (sse 1), aI cI s12 7 (sto 1), aI cI s13 60 (sre 1), oL s2 s21 s22 s23 (sf 2), aI cI s21 3 (sse 2), aI cI s22 7 (sto 2), aI cI s23 60 (sre 2), oL s3 s31 s32 s33 (sf 3), aI cI s31 3 (sse 3), aI cI s32 7 (sto 3), aI cI s33 60 (sre 3), oL h h1 h2 h3 f, aI cI h1 3 se, aI cI h2 7 to, aI cI h3 60 re, oP z1 pf, oT y1 y2 tf, aC cC y2 60 ch, oL o o1 o2 o3 of, aI cI o1 3 ose, aI cI o2 7 oto, aI cI o3 60 ore, oK t1 kf, aI cI ag 18 ug, aI cI ar 60 ur, aI cI ad 10 ud] := hD
  refine ag_tope (nI y) ey ?_
  refine lv_istore (lv' := [(5, .int (nI y)), (0, .ref x0), (1, .ref ag), (2, .ref ar), (3, .ref ad), (4, .int p1)]) hx hb dL_acts_9 hl (by decide) rfl (fun ls hl => ?_)
  refine lv_iload hx hb dL_acts_11 (lv_at hl 5 rfl) ?_
  refine lv_bipush (v := 32) hx hb dL_acts_13 (by decide) ?_
  refine ag_callSi (As := [.int p1, .int 32]) (rest := []) hx hb hml hown hG hK hN hA hP hD hS hl (ct_L_low l D cI cC cL p1 32 (by decide)) fL_low k_243 ag_cut_0 rfl (Nat.le_of_ble_eq_true rfl) ⟨Nat.le_of_ble_eq_true rfl, Nat.le_of_ble_eq_true rfl⟩ ⟨Nat.zero_le _, Nat.zero_le _⟩ dL_acts_15 (fun r w1 H locs hw hP hD hS => ?_)
  obtain ⟨rfl, hw⟩ := hw
  subst hw
  have hP : va_P D vwCl [oX x0 h o t1 x1 y1 z1, oH x1 x2 hf, aL cL x2 (gS s0 s1 s2 s3), oL s0 s01 s02 s03 (sf 0), aI cI s01 3 (sse 0), aI cI s02 7 (sto 0), aI cI s03 60 (sre 0), oL s1 s11 s12 s13 (sf 1), aI cI s11 3 (sse 1), aI cI s12 7 (sto 1), aI cI s13 60 (sre 1), oL s2 s21 s22 s23 (sf 2), aI cI s21 3 (sse 2), aI cI s22 7 (sto 2), aI cI s23 60 (sre 2), oL s3 s31 s32 s33 (sf 3), aI cI s31 3 (sse 3), aI cI s32 7 (sto 3), aI cI s33 60 (sre 3), oL h h1 h2 h3 f, aI cI h1 3 se, aI cI h2 7 to, aI cI h3 60 re, oP z1 pf, oT y1 y2 tf, aC cC y2 60 ch, oL o o1 o2 o3 of, aI cI o1 3 ose, aI cI o2 7 oto, aI cI o3 60 ore, oK t1 kf, aI cI ag 18 ug, aI cI ar 60 ur, aI cI ad 10 ud] H := hP
  have hD : va_D A [oX x0 h o t1 x1 y1 z1, oH x1 x2 hf, aL cL x2 (gS s0 s1 s2 s3), oL s0 s01 s02 s03 (sf 0), aI cI s01 3 (sse 0), aI cI s02 7 (sto 0), aI cI s03 60 (sre 0), oL s1 s11 s12 s13 (sf 1), aI cI s11 3 (sse 1), aI cI s12 7 (sto 1), aI cI s13 60 (sre 1), oL s2 s21 s22 s23 (sf 2), aI cI s21 3 (sse 2), aI cI s22 7 (sto 2), aI cI s23 60 (sre 2), oL s3 s31 s32 s33 (sf 3), aI cI s31 3 (sse 3), aI cI s32 7 (sto 3), aI cI s33 60 (sre 3), oL h h1 h2 h3 f, aI cI h1 3 se, aI cI h2 7 to, aI cI h3 60 re, oP z1 pf, oT y1 y2 tf, aC cC y2 60 ch, oL o o1 o2 o3 of, aI cI o1 3 ose, aI cI o2 7 oto, aI cI o3 60 ore, oK t1 kf, aI cI ag 18 ug, aI cI ar 60 ur, aI cI ad 10 ud] := hD
  refine lv_istore (lv' := [(6, .int (sr_L_low p1 32)), (5, .int (nI y)), (0, .ref x0), (1, .ref ag), (2, .ref ar), (3, .ref ad), (4, .int p1)]) hx hb dL_acts_18 hl (by decide) rfl (fun ls hl => ?_)
  refine lv_iload hx hb dL_acts_20 (lv_at hl 0 rfl) ?_
  refine lv_iconst (v := 5) hx hb dL_acts_22 (by decide) ?_
  refine lv_icmp_ge (tgt := 57) hx hb dL_acts_23 (by decide) (fun c_23 => ?_) (fun c_23 => ?_)
  · refine lv_iload hx hb dL_acts_57 (lv_at hl 0 rfl) ?_
    refine lv_bipush (v := 9) hx hb dL_acts_59 (by decide) ?_
    refine lv_icmp_ge (tgt := 95) hx hb dL_acts_61 (by decide) (fun c_61 => ?_) (fun c_61 => ?_)
    · refine lv_iload hx hb dL_acts_95 (lv_at hl 0 rfl) ?_
      refine lv_bipush (v := 13) hx hb dL_acts_97 (by decide) ?_
      refine lv_icmp_ge (tgt := 138) hx hb dL_acts_99 (by decide) (fun c_99 => ?_) (fun c_99 => ?_)
      · refine lv_iload hx hb dL_acts_138 (lv_at hl 0 rfl) ?_
        refine lv_bipush (v := 16) hx hb dL_acts_140 (by decide) ?_
        refine lv_icmp_ge (tgt := 214) hx hb dL_acts_142 (by decide) (fun c_142 => ?_) (fun c_142 => ?_)
        · refine lv_iload hx hb dL_acts_214 (lv_at hl 0 rfl) ?_
          refine lv_bipush (v := 18) hx hb dL_acts_216 (by decide) ?_
          refine lv_icmp_ge (tgt := 304) hx hb dL_acts_218 (by decide) (fun c_218 => ?_) (fun c_218 => ?_)
          · refine lv_iload hx hb dL_acts_304 (lv_at hl 0 rfl) ?_
            refine lv_bipush (v := 21) hx hb dL_acts_306 (by decide) ?_
            refine lv_icmp_ge (tgt := 415) hx hb dL_acts_308 (by decide) (fun c_308 => ?_) (fun c_308 => ?_)
            · refine lv_iconst (v := 1) hx hb dL_acts_415 (by decide) ?_
              refine lv_iload hx hb dL_acts_416 (lv_at hl 1 rfl) ?_
              refine lv_iload hx hb dL_acts_418 (lv_at hl 1 rfl) ?_
              refine lv_iconst (v := 4) hx hb dL_acts_420 (by decide) ?_
              refine lv_irem hx hb dL_acts_421 (by decide) ?_
              refine ag_tope (nI (y % 4)) (qrem 4 rfl (by decide) (by decide) (by omega)) ?_
              have J433 : ∀ (ls : Array Slot), lv_has ls 9 [(0, .ref x0), (1, .ref ag), (2, .ref ar), (3, .ref ad), (4, .int p1), (5, .int (nI y)), (6, .int (sr_L_low p1 32))] → W p l e (ag_rn 6 131 1 7) s m ([.ref x0, .ref ag, .ref ar, .ref ad, .int p1] : List Value).toArray below meth c H locs 0 0 (MQ below (va_Qi (po_L_acts cI cC cL x0 ag ar ad h o t1 x1 y1 z1 x2 s0 s01 s02 s03 s1 s11 s12 s13 s2 s21 s22 s23 s3 s31 s32 s33 h1 h2 h3 y2 o1 o2 o3 hf f se to re pf tf ch of ose oto ore kf ug ur ud p1 sf sse sto sre hZ) (ag_Out D [oX x0 h o t1 x1 y1 z1, oH x1 x2 hf, aL cL x2 (gS s0 s1 s2 s3), oL s0 s01 s02 s03 (sf 0), aI cI s01 3 (sse 0), aI cI s02 7 (sto 0), aI cI s03 60 (sre 0), oL s1 s11 s12 s13 (sf 1), aI cI s11 3 (sse 1), aI cI s12 7 (sto 1), aI cI s13 60 (sre 1), oL s2 s21 s22 s23 (sf 2), aI cI s21 3 (sse 2), aI cI s22 7 (sto 2), aI cI s23 60 (sre 2), oL s3 s31 s32 s33 (sf 3), aI cI s31 3 (sse 3), aI cI s32 7 (sto 3), aI cI s33 60 (sre 3), oL h h1 h2 h3 f, aI cI h1 3 se, aI cI h2 7 to, aI cI h3 60 re, oP z1 pf, oT y1 y2 tf, aC cC y2 60 ch, oL o o1 o2 o3 of, aI cI o1 3 ose, aI cI o2 7 oto, aI cI o3 60 ore, oK t1 kf, aI cI ag 18 ug, aI cI ar 60 ur, aI cI ad 10 ud]) A) ([.ref x0, .ref ag, .ref ar, .ref ad, .int p1] : List Value).toArray s 1 7 A) (F0 m 433 ls [.int (j433_0_L_acts y), .int (nI y), .int 1]) := by
                intro ls hl
                refine lv_irem hx hb dL_acts_433 (m7_nz y) ?_
                refine ag_tope (nI (y % m7 y)) (qrem (m7 y) (m7_e y) (m7_b y).1 (m7_b y).2.1 (by omega)) ?_
                refine lv_iadd hx hb dL_acts_434 ?_
                refine ag_tope (nI (1 + y % m7 y)) (nI_add 1 _) ?_
                refine lv_istore (lv' := [(7, .int (nI (1 + y % m7 y))), (0, .ref x0), (1, .ref ag), (2, .ref ar), (3, .ref ad), (4, .int p1), (5, .int (nI y)), (6, .int (sr_L_low p1 32))]) hx hb dL_acts_435 hl (by decide) rfl (fun ls hl => ?_)
                refine lv_aload_n hx hb dL_acts_437 rfl (lv_at hl 2 rfl) ?_
                refine lv_iconst (v := 0) hx hb dL_acts_438 (by decide) ?_
                refine ag_ild (k := 0) (v := ug 0) hx hb hK hP 31 rfl rfl (Nat.le_of_ble_eq_true rfl) (Nat.le_of_ble_eq_true rfl) rfl dL_acts_439 ?_
                refine lv_iload hx hb dL_acts_440 (lv_at hl 0 rfl) ?_
                refine lv_iadd hx hb dL_acts_442 ?_
                refine lv_sipush (v := 9999) hx hb dL_acts_443 (by decide) ?_
                refine lv_icmp_le (tgt := 466) hx hb dL_acts_446 (by decide) (fun c_446 => ?_) (fun c_446 => ?_)
                · refine lv_aload_n hx hb dL_acts_466 rfl (lv_at hl 2 rfl) ?_
                  refine lv_aload_n hx hb dL_acts_467 rfl (lv_at hl 3 rfl) ?_
                  refine lv_aload_n hx hb dL_acts_468 rfl (lv_at hl 4 rfl) ?_
                  refine lv_iload hx hb dL_acts_469 (lv_at hl 0 rfl) ?_
                  refine ag_callSvn (As := [.ref ag, .ref ar, .ref ad, .int (nI (1 + y % m7 y))]) (rest := []) hx hb hml hown hG hK hN hA hP hD hS hl (ct_L_run l D cI cC cL ag ar ad ug ur ud (nI (1 + y % m7 y)) T (1 + y % m7 y) f se to re kf rfl (by have := m7_b y; have := Nat.mod_lt y (m7_b y).1; omega) hR) fL_run k_381 (ag_cut_1 [oX x0 h o t1 x1 y1 z1, oH x1 x2 hf, aL cL x2 (gS s0 s1 s2 s3), oL s0 s01 s02 s03 (sf 0), aI cI s01 3 (sse 0), aI cI s02 7 (sto 0), aI cI s03 60 (sre 0), oL s1 s11 s12 s13 (sf 1), aI cI s11 3 (sse 1), aI cI s12 7 (sto 1), aI cI s13 60 (sre 1), oL s2 s21 s22 s23 (sf 2), aI cI s21 3 (sse 2), aI cI s22 7 (sto 2), aI cI s23 60 (sre 2), oL s3 s31 s32 s33 (sf 3), aI cI s31 3 (sse 3), aI cI s32 7 (sto 3), aI cI s33 60 (sre 3), oL h h1 h2 h3 f, aI cI h1 3 se, aI cI h2 7 to, aI cI h3 60 re, oP z1 pf, oT y1 y2 tf, aC cC y2 60 ch, oL o o1 o2 o3 of, aI cI o1 3 ose, aI cI o2 7 oto, aI cI o3 60 ore, oK t1 kf] [] rfl) rfl (Nat.le_of_ble_eq_true rfl) ⟨Nat.le_of_ble_eq_true rfl, Nat.le_of_ble_eq_true rfl⟩ ⟨Nat.le_of_ble_eq_true rfl, Nat.le_of_ble_eq_true rfl⟩ dL_acts_471 (fun w1 H locs hw hP hD hS => ?_)
                  obtain ⟨gi, ri, di, hw, hX⟩ := hw
                  subst hw
                  have hP : va_P D vwCl [oX x0 h o t1 x1 y1 z1, oH x1 x2 hf, aL cL x2 (gS s0 s1 s2 s3), oL s0 s01 s02 s03 (sf 0), aI cI s01 3 (sse 0), aI cI s02 7 (sto 0), aI cI s03 60 (sre 0), oL s1 s11 s12 s13 (sf 1), aI cI s11 3 (sse 1), aI cI s12 7 (sto 1), aI cI s13 60 (sre 1), oL s2 s21 s22 s23 (sf 2), aI cI s21 3 (sse 2), aI cI s22 7 (sto 2), aI cI s23 60 (sre 2), oL s3 s31 s32 s33 (sf 3), aI cI s31 3 (sse 3), aI cI s32 7 (sto 3), aI cI s33 60 (sre 3), oL h h1 h2 h3 f, aI cI h1 3 se, aI cI h2 7 to, aI cI h3 60 re, oP z1 pf, oT y1 y2 tf, aC cC y2 60 ch, oL o o1 o2 o3 of, aI cI o1 3 ose, aI cI o2 7 oto, aI cI o3 60 ore, oK t1 kf, aI cI ag 18 gi, aI cI ar 60 ri, aI cI ad 10 di] H := hP
                  have hD : va_D A [oX x0 h o t1 x1 y1 z1, oH x1 x2 hf, aL cL x2 (gS s0 s1 s2 s3), oL s0 s01 s02 s03 (sf 0), aI cI s01 3 (sse 0), aI cI s02 7 (sto 0), aI cI s03 60 (sre 0), oL s1 s11 s12 s13 (sf 1), aI cI s11 3 (sse 1), aI cI s12 7 (sto 1), aI cI s13 60 (sre 1), oL s2 s21 s22 s23 (sf 2), aI cI s21 3 (sse 2), aI cI s22 7 (sto 2), aI cI s23 60 (sre 2), oL s3 s31 s32 s33 (sf 3), aI cI s31 3 (sse 3), aI cI s32 7 (sto 3), aI cI s33 60 (sre 3), oL h h1 h2 h3 f, aI cI h1 3 se, aI cI h2 7 to, aI cI h3 60 re, oP z1 pf, oT y1 y2 tf, aC cC y2 60 ch, oL o o1 o2 o3 of, aI cI o1 3 ose, aI cI o2 7 oto, aI cI o3 60 ore, oK t1 kf, aI cI ag 18 gi, aI cI ar 60 ri, aI cI ad 10 di] := hD
                  refine lv_aload_n hx hb dL_acts_474 rfl (lv_at hl 1 rfl) ?_
                  refine lv_iload hx hb dL_acts_475 (lv_at hl 0 rfl) ?_
                  refine ag_callVi (As := [.int (nI (1 + y % m7 y))]) (rest := []) hx hb hml hown hG hK hN hA hP hD hS hl (ct_X5_run l D cI cC cL x0 h o t1 x1 y1 z1 x2 s0 s01 s02 s03 s1 s11 s12 s13 s2 s21 s22 s23 s3 s31 s32 s33 h1 h2 h3 y2 o1 o2 o3 hf f se to re pf tf ch of ose oto ore kf (nI (1 + y % m7 y)) sf sse sto sre) fX5_run k_332 (ag_cut_1 [] [aI cI ag 18 gi, aI cI ar 60 ri, aI cI ad 10 di] rfl) (q0 := 0) rfl rfl rfl rfl (Nat.le_of_ble_eq_true rfl) ⟨Nat.le_of_ble_eq_true rfl, Nat.le_of_ble_eq_true rfl⟩ ⟨Nat.le_of_ble_eq_true rfl, Nat.le_of_ble_eq_true rfl⟩ dL_acts_477 (fun r w1 H locs hw hP hD hS => ?_)
                  obtain ⟨rfl, hw⟩ := hw
                  generalize eg477_1 : sw1_X5_run hf f se to re kf (nI (1 + y % m7 y)) = g477_1 at hw
                  replace eg477_1 : gv477_1_L_acts hf f se to re kf y = g477_1 := (by rw [← eg477_1]; rfl)
                  generalize eg477_2 : fw_sf_X5_run hf f se to re kf (nI (1 + y % m7 y)) sf = g477_2 at hw
                  replace eg477_2 : gv477_2_L_acts hf f se to re kf sf y = g477_2 := (by rw [← eg477_2]; rfl)
                  generalize eg477_3 : fw_sse_X5_run hf f se to re kf (nI (1 + y % m7 y)) sse = g477_3 at hw
                  replace eg477_3 : gv477_3_L_acts hf f se to re kf sse y = g477_3 := (by rw [← eg477_3]; rfl)
                  generalize eg477_4 : fw_sto_X5_run hf f se to re kf (nI (1 + y % m7 y)) sto = g477_4 at hw
                  replace eg477_4 : gv477_4_L_acts hf f se to re kf sto y = g477_4 := (by rw [← eg477_4]; rfl)
                  generalize eg477_5 : fw_sre_X5_run hf f se to re kf (nI (1 + y % m7 y)) sre = g477_5 at hw
                  replace eg477_5 : gv477_5_L_acts hf f se to re kf sre y = g477_5 := (by rw [← eg477_5]; rfl)
                  generalize eg477_6 : sw19_X5_run f se to re kf (nI (1 + y % m7 y)) = g477_6 at hw
                  replace eg477_6 : gv477_6_L_acts f se to re kf y = g477_6 := (by rw [← eg477_6]; rfl)
                  generalize eg477_7 : sw20_X5_run f se to re kf (nI (1 + y % m7 y)) = g477_7 at hw
                  replace eg477_7 : gv477_7_L_acts f se to re kf y = g477_7 := (by rw [← eg477_7]; rfl)
                  generalize eg477_8 : sw21_X5_run f se to re kf (nI (1 + y % m7 y)) = g477_8 at hw
                  replace eg477_8 : gv477_8_L_acts f se to re kf y = g477_8 := (by rw [← eg477_8]; rfl)
                  generalize eg477_9 : sw22_X5_run f se to re kf (nI (1 + y % m7 y)) = g477_9 at hw
                  replace eg477_9 : gv477_9_L_acts f se to re kf y = g477_9 := (by rw [← eg477_9]; rfl)
                  generalize eg477_10 : sw26_X5_run f se to re kf (nI (1 + y % m7 y)) = g477_10 at hw
                  replace eg477_10 : gv477_10_L_acts f se to re kf y = g477_10 := (by rw [← eg477_10]; rfl)
                  generalize eg477_11 : sw27_X5_run se = g477_11 at hw
                  replace eg477_11 : gv477_11_L_acts se = g477_11 := (by rw [← eg477_11]; rfl)
                  generalize eg477_12 : sw28_X5_run f se to re kf (nI (1 + y % m7 y)) = g477_12 at hw
                  replace eg477_12 : gv477_12_L_acts f se to re kf y = g477_12 := (by rw [← eg477_12]; rfl)
                  generalize eg477_13 : sw29_X5_run f se to re kf (nI (1 + y % m7 y)) = g477_13 at hw
                  replace eg477_13 : gv477_13_L_acts f se to re kf y = g477_13 := (by rw [← eg477_13]; rfl)
                  generalize eg477_14 : sw30_X5_run f se to re kf (nI (1 + y % m7 y)) = g477_14 at hw
                  replace eg477_14 : gv477_14_L_acts f se to re kf y = g477_14 := (by rw [← eg477_14]; rfl)
                  subst hw
                  have hP : va_P D vwCl [oX x0 h o t1 x1 y1 z1, oH x1 x2 g477_1, aL cL x2 (gS s0 s1 s2 s3), oL s0 s01 s02 s03 (g477_2 0), aI cI s01 3 (g477_3 0), aI cI s02 7 (g477_4 0), aI cI s03 60 (g477_5 0), oL s1 s11 s12 s13 (g477_2 1), aI cI s11 3 (g477_3 1), aI cI s12 7 (g477_4 1), aI cI s13 60 (g477_5 1), oL s2 s21 s22 s23 (g477_2 2), aI cI s21 3 (g477_3 2), aI cI s22 7 (g477_4 2), aI cI s23 60 (g477_5 2), oL s3 s31 s32 s33 (g477_2 3), aI cI s31 3 (g477_3 3), aI cI s32 7 (g477_4 3), aI cI s33 60 (g477_5 3), oL h h1 h2 h3 g477_6, aI cI h1 3 g477_7, aI cI h2 7 g477_8, aI cI h3 60 g477_9, oP z1 pf, oT y1 y2 tf, aC cC y2 60 ch, oL o o1 o2 o3 g477_10, aI cI o1 3 g477_11, aI cI o2 7 g477_12, aI cI o3 60 g477_13, oK t1 g477_14, aI cI ag 18 gi, aI cI ar 60 ri, aI cI ad 10 di] H := hP
                  have hD : va_D A [oX x0 h o t1 x1 y1 z1, oH x1 x2 g477_1, aL cL x2 (gS s0 s1 s2 s3), oL s0 s01 s02 s03 (g477_2 0), aI cI s01 3 (g477_3 0), aI cI s02 7 (g477_4 0), aI cI s03 60 (g477_5 0), oL s1 s11 s12 s13 (g477_2 1), aI cI s11 3 (g477_3 1), aI cI s12 7 (g477_4 1), aI cI s13 60 (g477_5 1), oL s2 s21 s22 s23 (g477_2 2), aI cI s21 3 (g477_3 2), aI cI s22 7 (g477_4 2), aI cI s23 60 (g477_5 2), oL s3 s31 s32 s33 (g477_2 3), aI cI s31 3 (g477_3 3), aI cI s32 7 (g477_4 3), aI cI s33 60 (g477_5 3), oL h h1 h2 h3 g477_6, aI cI h1 3 g477_7, aI cI h2 7 g477_8, aI cI h3 60 g477_9, oP z1 pf, oT y1 y2 tf, aC cC y2 60 ch, oL o o1 o2 o3 g477_10, aI cI o1 3 g477_11, aI cI o2 7 g477_12, aI cI o3 60 g477_13, oK t1 g477_14, aI cI ag 18 gi, aI cI ar 60 ri, aI cI ad 10 di] := hD
                  refine lv_aload_n hx hb dL_acts_480 rfl (lv_at hl 2 rfl) ?_
                  refine ag_callSi (As := [.ref ag]) (rest := [.int (sr_X5_run f se to re kf (nI (1 + y % m7 y)))]) hx hb hml hown hG hK hN hA hP hD hS hl (ct_L_level l D cI cC cL ag gi) fL_level k_390 (ag_cut_1 [oX x0 h o t1 x1 y1 z1, oH x1 x2 g477_1, aL cL x2 (gS s0 s1 s2 s3), oL s0 s01 s02 s03 (g477_2 0), aI cI s01 3 (g477_3 0), aI cI s02 7 (g477_4 0), aI cI s03 60 (g477_5 0), oL s1 s11 s12 s13 (g477_2 1), aI cI s11 3 (g477_3 1), aI cI s12 7 (g477_4 1), aI cI s13 60 (g477_5 1), oL s2 s21 s22 s23 (g477_2 2), aI cI s21 3 (g477_3 2), aI cI s22 7 (g477_4 2), aI cI s23 60 (g477_5 2), oL s3 s31 s32 s33 (g477_2 3), aI cI s31 3 (g477_3 3), aI cI s32 7 (g477_4 3), aI cI s33 60 (g477_5 3), oL h h1 h2 h3 g477_6, aI cI h1 3 g477_7, aI cI h2 7 g477_8, aI cI h3 60 g477_9, oP z1 pf, oT y1 y2 tf, aC cC y2 60 ch, oL o o1 o2 o3 g477_10, aI cI o1 3 g477_11, aI cI o2 7 g477_12, aI cI o3 60 g477_13, oK t1 g477_14] [aI cI ar 60 ri, aI cI ad 10 di] rfl) rfl (Nat.le_of_ble_eq_true rfl) ⟨Nat.le_of_ble_eq_true rfl, Nat.le_of_ble_eq_true rfl⟩ ⟨Nat.le_of_ble_eq_true rfl, Nat.le_of_ble_eq_true rfl⟩ dL_acts_481 (fun r w1 H locs hw hP hD hS => ?_)
                  obtain ⟨rfl, hw⟩ := hw
                  subst hw
                  have hP : va_P D vwCl [oX x0 h o t1 x1 y1 z1, oH x1 x2 g477_1, aL cL x2 (gS s0 s1 s2 s3), oL s0 s01 s02 s03 (g477_2 0), aI cI s01 3 (g477_3 0), aI cI s02 7 (g477_4 0), aI cI s03 60 (g477_5 0), oL s1 s11 s12 s13 (g477_2 1), aI cI s11 3 (g477_3 1), aI cI s12 7 (g477_4 1), aI cI s13 60 (g477_5 1), oL s2 s21 s22 s23 (g477_2 2), aI cI s21 3 (g477_3 2), aI cI s22 7 (g477_4 2), aI cI s23 60 (g477_5 2), oL s3 s31 s32 s33 (g477_2 3), aI cI s31 3 (g477_3 3), aI cI s32 7 (g477_4 3), aI cI s33 60 (g477_5 3), oL h h1 h2 h3 g477_6, aI cI h1 3 g477_7, aI cI h2 7 g477_8, aI cI h3 60 g477_9, oP z1 pf, oT y1 y2 tf, aC cC y2 60 ch, oL o o1 o2 o3 g477_10, aI cI o1 3 g477_11, aI cI o2 7 g477_12, aI cI o3 60 g477_13, oK t1 g477_14, aI cI ag 18 gi, aI cI ar 60 ri, aI cI ad 10 di] H := hP
                  have hD : va_D A [oX x0 h o t1 x1 y1 z1, oH x1 x2 g477_1, aL cL x2 (gS s0 s1 s2 s3), oL s0 s01 s02 s03 (g477_2 0), aI cI s01 3 (g477_3 0), aI cI s02 7 (g477_4 0), aI cI s03 60 (g477_5 0), oL s1 s11 s12 s13 (g477_2 1), aI cI s11 3 (g477_3 1), aI cI s12 7 (g477_4 1), aI cI s13 60 (g477_5 1), oL s2 s21 s22 s23 (g477_2 2), aI cI s21 3 (g477_3 2), aI cI s22 7 (g477_4 2), aI cI s23 60 (g477_5 2), oL s3 s31 s32 s33 (g477_2 3), aI cI s31 3 (g477_3 3), aI cI s32 7 (g477_4 3), aI cI s33 60 (g477_5 3), oL h h1 h2 h3 g477_6, aI cI h1 3 g477_7, aI cI h2 7 g477_8, aI cI h3 60 g477_9, oP z1 pf, oT y1 y2 tf, aC cC y2 60 ch, oL o o1 o2 o3 g477_10, aI cI o1 3 g477_11, aI cI o2 7 g477_12, aI cI o3 60 g477_13, oK t1 g477_14, aI cI ag 18 gi, aI cI ar 60 ri, aI cI ad 10 di] := hD
                  refine lv_icmp_ne (tgt := 491) hx hb dL_acts_484 (by decide) (fun h0 => absurd h0 (not_not_intro (s_run hSZ hTF hR hT (by omega) (by have := m7_b y; have := Nat.mod_lt y (m7_b y).1; omega) c_446 hX).1)) (fun _ => ?_)
                  refine lv_iconst (v := 1) hx hb dL_acts_487 (by decide) ?_
                  refine lv_goto (tgt := 492) hx hb dL_acts_488 (by decide) ?_
                  revert hP; revert hD; revert hS; revert hl
                  subst eg477_14
                  subst eg477_13
                  subst eg477_12
                  subst eg477_11
                  subst eg477_10
                  subst eg477_9
                  subst eg477_8
                  subst eg477_7
                  subst eg477_6
                  subst eg477_5
                  subst eg477_4
                  subst eg477_3
                  subst eg477_2
                  subst eg477_1
                  intro hl hS hD hP
                  exact ag_iretn [x0, x1, x2, s0, s01, s02, s03, s1, s11, s12, s13, s2, s21, s22, s23, s3, s31, s32, s33, h, h1, h2, h3, z1, y1, y2, o, o1, o2, o3, t1, ag, ar, ad] hx hb hr (by decide) hlocks hP hS rfl rfl ⟨rfl, (gv477_1_L_acts hf f se to re kf y), (gv477_6_L_acts f se to re kf y), (gv477_7_L_acts f se to re kf y), (gv477_8_L_acts f se to re kf y), (gv477_9_L_acts f se to re kf y), pf, tf, ch, (gv477_10_L_acts f se to re kf y), (gv477_11_L_acts se), (gv477_12_L_acts f se to re kf y), (gv477_13_L_acts f se to re kf y), (gv477_14_L_acts f se to re kf y), gi, ri, di, (gv477_2_L_acts hf f se to re kf sf y), (gv477_3_L_acts hf f se to re kf sse y), (gv477_4_L_acts hf f se to re kf sto y), (gv477_5_L_acts hf f se to re kf sre y), rfl, (s_run hSZ hTF hR hT (by omega) (by have := m7_b y; have := Nat.mod_lt y (m7_b y).1; omega) c_446 hX).2⟩ dL_acts_492
                · refine lv_aload_n hx hb dL_acts_449 rfl (lv_at hl 1 rfl) ?_
                  refine lv_iload hx hb dL_acts_450 (lv_at hl 0 rfl) ?_
                  refine ag_callVi (As := [.int (nI (1 + y % m7 y))]) (rest := []) hx hb hml hown hG hK hN hA hP hD hS hl (ct_X5_run l D cI cC cL x0 h o t1 x1 y1 z1 x2 s0 s01 s02 s03 s1 s11 s12 s13 s2 s21 s22 s23 s3 s31 s32 s33 h1 h2 h3 y2 o1 o2 o3 hf f se to re pf tf ch of ose oto ore kf (nI (1 + y % m7 y)) sf sse sto sre) fX5_run k_332 (ag_cut_1 [] [aI cI ag 18 ug, aI cI ar 60 ur, aI cI ad 10 ud] rfl) (q0 := 0) rfl rfl rfl rfl (Nat.le_of_ble_eq_true rfl) ⟨Nat.le_of_ble_eq_true rfl, Nat.le_of_ble_eq_true rfl⟩ ⟨Nat.zero_le _, Nat.zero_le _⟩ dL_acts_452 (fun r w1 H locs hw hP hD hS => ?_)
                  obtain ⟨rfl, hw⟩ := hw
                  generalize eg452_15 : sw1_X5_run hf f se to re kf (nI (1 + y % m7 y)) = g452_15 at hw
                  replace eg452_15 : gv452_15_L_acts hf f se to re kf y = g452_15 := (by rw [← eg452_15]; rfl)
                  generalize eg452_16 : fw_sf_X5_run hf f se to re kf (nI (1 + y % m7 y)) sf = g452_16 at hw
                  replace eg452_16 : gv452_16_L_acts hf f se to re kf sf y = g452_16 := (by rw [← eg452_16]; rfl)
                  generalize eg452_17 : fw_sse_X5_run hf f se to re kf (nI (1 + y % m7 y)) sse = g452_17 at hw
                  replace eg452_17 : gv452_17_L_acts hf f se to re kf sse y = g452_17 := (by rw [← eg452_17]; rfl)
                  generalize eg452_18 : fw_sto_X5_run hf f se to re kf (nI (1 + y % m7 y)) sto = g452_18 at hw
                  replace eg452_18 : gv452_18_L_acts hf f se to re kf sto y = g452_18 := (by rw [← eg452_18]; rfl)
                  generalize eg452_19 : fw_sre_X5_run hf f se to re kf (nI (1 + y % m7 y)) sre = g452_19 at hw
                  replace eg452_19 : gv452_19_L_acts hf f se to re kf sre y = g452_19 := (by rw [← eg452_19]; rfl)
                  generalize eg452_20 : sw19_X5_run f se to re kf (nI (1 + y % m7 y)) = g452_20 at hw
                  replace eg452_20 : gv452_20_L_acts f se to re kf y = g452_20 := (by rw [← eg452_20]; rfl)
                  generalize eg452_21 : sw20_X5_run f se to re kf (nI (1 + y % m7 y)) = g452_21 at hw
                  replace eg452_21 : gv452_21_L_acts f se to re kf y = g452_21 := (by rw [← eg452_21]; rfl)
                  generalize eg452_22 : sw21_X5_run f se to re kf (nI (1 + y % m7 y)) = g452_22 at hw
                  replace eg452_22 : gv452_22_L_acts f se to re kf y = g452_22 := (by rw [← eg452_22]; rfl)
                  generalize eg452_23 : sw22_X5_run f se to re kf (nI (1 + y % m7 y)) = g452_23 at hw
                  replace eg452_23 : gv452_23_L_acts f se to re kf y = g452_23 := (by rw [← eg452_23]; rfl)
                  generalize eg452_24 : sw26_X5_run f se to re kf (nI (1 + y % m7 y)) = g452_24 at hw
                  replace eg452_24 : gv452_24_L_acts f se to re kf y = g452_24 := (by rw [← eg452_24]; rfl)
                  generalize eg452_25 : sw27_X5_run se = g452_25 at hw
                  replace eg452_25 : gv452_25_L_acts se = g452_25 := (by rw [← eg452_25]; rfl)
                  generalize eg452_26 : sw28_X5_run f se to re kf (nI (1 + y % m7 y)) = g452_26 at hw
                  replace eg452_26 : gv452_26_L_acts f se to re kf y = g452_26 := (by rw [← eg452_26]; rfl)
                  generalize eg452_27 : sw29_X5_run f se to re kf (nI (1 + y % m7 y)) = g452_27 at hw
                  replace eg452_27 : gv452_27_L_acts f se to re kf y = g452_27 := (by rw [← eg452_27]; rfl)
                  generalize eg452_28 : sw30_X5_run f se to re kf (nI (1 + y % m7 y)) = g452_28 at hw
                  replace eg452_28 : gv452_28_L_acts f se to re kf y = g452_28 := (by rw [← eg452_28]; rfl)
                  subst hw
                  have hP : va_P D vwCl [oX x0 h o t1 x1 y1 z1, oH x1 x2 g452_15, aL cL x2 (gS s0 s1 s2 s3), oL s0 s01 s02 s03 (g452_16 0), aI cI s01 3 (g452_17 0), aI cI s02 7 (g452_18 0), aI cI s03 60 (g452_19 0), oL s1 s11 s12 s13 (g452_16 1), aI cI s11 3 (g452_17 1), aI cI s12 7 (g452_18 1), aI cI s13 60 (g452_19 1), oL s2 s21 s22 s23 (g452_16 2), aI cI s21 3 (g452_17 2), aI cI s22 7 (g452_18 2), aI cI s23 60 (g452_19 2), oL s3 s31 s32 s33 (g452_16 3), aI cI s31 3 (g452_17 3), aI cI s32 7 (g452_18 3), aI cI s33 60 (g452_19 3), oL h h1 h2 h3 g452_20, aI cI h1 3 g452_21, aI cI h2 7 g452_22, aI cI h3 60 g452_23, oP z1 pf, oT y1 y2 tf, aC cC y2 60 ch, oL o o1 o2 o3 g452_24, aI cI o1 3 g452_25, aI cI o2 7 g452_26, aI cI o3 60 g452_27, oK t1 g452_28, aI cI ag 18 ug, aI cI ar 60 ur, aI cI ad 10 ud] H := hP
                  have hD : va_D A [oX x0 h o t1 x1 y1 z1, oH x1 x2 g452_15, aL cL x2 (gS s0 s1 s2 s3), oL s0 s01 s02 s03 (g452_16 0), aI cI s01 3 (g452_17 0), aI cI s02 7 (g452_18 0), aI cI s03 60 (g452_19 0), oL s1 s11 s12 s13 (g452_16 1), aI cI s11 3 (g452_17 1), aI cI s12 7 (g452_18 1), aI cI s13 60 (g452_19 1), oL s2 s21 s22 s23 (g452_16 2), aI cI s21 3 (g452_17 2), aI cI s22 7 (g452_18 2), aI cI s23 60 (g452_19 2), oL s3 s31 s32 s33 (g452_16 3), aI cI s31 3 (g452_17 3), aI cI s32 7 (g452_18 3), aI cI s33 60 (g452_19 3), oL h h1 h2 h3 g452_20, aI cI h1 3 g452_21, aI cI h2 7 g452_22, aI cI h3 60 g452_23, oP z1 pf, oT y1 y2 tf, aC cC y2 60 ch, oL o o1 o2 o3 g452_24, aI cI o1 3 g452_25, aI cI o2 7 g452_26, aI cI o3 60 g452_27, oK t1 g452_28, aI cI ag 18 ug, aI cI ar 60 ur, aI cI ad 10 ud] := hD
                  refine lv_ldc (v := (-1000000003)) hx hb hown (hG _ k_380) dL_acts_455 ?_
                  refine lv_icmp_ne (tgt := 464) hx hb dL_acts_457 (by decide) (fun h0 => absurd h0 (not_not_intro (s_run_no hZ (by omega) (by have := m7_b y; have := Nat.mod_lt y (m7_b y).1; omega) c_446).1)) (fun _ => ?_)
                  refine lv_iconst (v := 1) hx hb dL_acts_460 (by decide) ?_
                  refine lv_goto (tgt := 465) hx hb dL_acts_461 (by decide) ?_
                  revert hP; revert hD; revert hS; revert hl
                  subst eg452_28
                  subst eg452_27
                  subst eg452_26
                  subst eg452_25
                  subst eg452_24
                  subst eg452_23
                  subst eg452_22
                  subst eg452_21
                  subst eg452_20
                  subst eg452_19
                  subst eg452_18
                  subst eg452_17
                  subst eg452_16
                  subst eg452_15
                  intro hl hS hD hP
                  refine W.widen (k := 1) (n := 7) (Nat.zero_le _) (Nat.zero_le _) ?_
                  exact ag_iretn [x0, x1, x2, s0, s01, s02, s03, s1, s11, s12, s13, s2, s21, s22, s23, s3, s31, s32, s33, h, h1, h2, h3, z1, y1, y2, o, o1, o2, o3, t1, ag, ar, ad] hx hb hr (by decide) hlocks hP hS rfl rfl ⟨rfl, (gv452_15_L_acts hf f se to re kf y), (gv452_20_L_acts f se to re kf y), (gv452_21_L_acts f se to re kf y), (gv452_22_L_acts f se to re kf y), (gv452_23_L_acts f se to re kf y), pf, tf, ch, (gv452_24_L_acts f se to re kf y), (gv452_25_L_acts se), (gv452_26_L_acts f se to re kf y), (gv452_27_L_acts f se to re kf y), (gv452_28_L_acts f se to re kf y), ug, ur, ud, (gv452_16_L_acts hf f se to re kf sf y), (gv452_17_L_acts hf f se to re kf sse y), (gv452_18_L_acts hf f se to re kf sto y), (gv452_19_L_acts hf f se to re kf sre y), rfl, (s_run_no hZ (by omega) (by have := m7_b y; have := Nat.mod_lt y (m7_b y).1; omega) c_446).2⟩ dL_acts_465
              refine lv_if_ne (tgt := 431) hx hb dL_acts_422 (by decide) (fun c_422 => ?_) (fun c_422 => ?_)
              · refine lv_bipush (v := 40) hx hb dL_acts_431 (by decide) ?_
                simp only [j433_0_L_acts, if_neg c_422] at J433
                exact J433 _ (lv_sub hl [2, 3, 4, 5, 6, 1, 0] rfl)
              · refine lv_sipush (v := 300) hx hb dL_acts_425 (by decide) ?_
                refine lv_goto (tgt := 433) hx hb dL_acts_428 (by decide) ?_
                simp only [j433_0_L_acts, if_pos c_422] at J433
                exact J433 _ (lv_sub hl [2, 3, 4, 5, 6, 1, 0] rfl)
            · refine lv_iload hx hb dL_acts_311 (lv_at hl 1 rfl) ?_
              refine lv_iconst (v := 3) hx hb dL_acts_313 (by decide) ?_
              refine lv_irem hx hb dL_acts_314 (by decide) ?_
              refine ag_tope (nI (y % 3)) (qrem 3 rfl (by decide) (by decide) (by omega)) ?_
              refine lv_istore (lv' := [(7, .int (nI (y % 3))), (6, .int (sr_L_low p1 32)), (5, .int (nI y)), (0, .ref x0), (1, .ref ag), (2, .ref ar), (3, .ref ad), (4, .int p1)]) hx hb dL_acts_315 hl (by decide) rfl (fun ls hl => ?_)
              refine lv_aload_n hx hb dL_acts_317 rfl (lv_at hl 4 rfl) ?_
              refine lv_bipush (v := 8) hx hb dL_acts_318 (by decide) ?_
              refine lv_iload hx hb dL_acts_320 (lv_at hl 0 rfl) ?_
              refine lv_iadd hx hb dL_acts_322 ?_
              refine ag_tope (nI (8 + y % 3)) (nI_add 8 _) ?_
              refine ag_ild (k := 8 + y % 3) (v := ug (8 + y % 3)) hx hb hK hP 31 rfl rfl (by have := Nat.mod_lt y (show 0 < 3 by decide); omega) (Nat.le_of_ble_eq_true rfl) rfl dL_acts_323 ?_
              refine lv_istore (lv' := [(8, .int (ug (8 + y % 3))), (7, .int (nI (y % 3))), (6, .int (sr_L_low p1 32)), (5, .int (nI y)), (0, .ref x0), (1, .ref ag), (2, .ref ar), (3, .ref ad), (4, .int p1)]) hx hb dL_acts_324 hl (by decide) rfl (fun ls hl => ?_)
              refine lv_aload_n hx hb dL_acts_326 rfl (lv_at hl 5 rfl) ?_
              refine lv_bipush (v := 8) hx hb dL_acts_327 (by decide) ?_
              refine lv_iload hx hb dL_acts_329 (lv_at hl 1 rfl) ?_
              refine lv_iadd hx hb dL_acts_331 ?_
              refine ag_tope (nI (8 + y % 3)) (nI_add 8 _) ?_
              refine lv_iload hx hb dL_acts_332 (lv_at hl 1 rfl) ?_
              have J390 : ∀ (ls : Array Slot), lv_has ls 9 [(0, .ref x0), (1, .ref ag), (2, .ref ar), (3, .ref ad), (4, .int p1), (5, .int (nI y)), (6, .int (sr_L_low p1 32)), (7, .int (nI (y % 3))), (8, .int (ug (8 + y % 3)))] → W p l e (ag_rn 6 131 1 7) s m ([.ref x0, .ref ag, .ref ar, .ref ad, .int p1] : List Value).toArray below meth c H locs 0 0 (MQ below (va_Qi (po_L_acts cI cC cL x0 ag ar ad h o t1 x1 y1 z1 x2 s0 s01 s02 s03 s1 s11 s12 s13 s2 s21 s22 s23 s3 s31 s32 s33 h1 h2 h3 y2 o1 o2 o3 hf f se to re pf tf ch of ose oto ore kf ug ur ud p1 sf sse sto sre hZ) (ag_Out D [oX x0 h o t1 x1 y1 z1, oH x1 x2 hf, aL cL x2 (gS s0 s1 s2 s3), oL s0 s01 s02 s03 (sf 0), aI cI s01 3 (sse 0), aI cI s02 7 (sto 0), aI cI s03 60 (sre 0), oL s1 s11 s12 s13 (sf 1), aI cI s11 3 (sse 1), aI cI s12 7 (sto 1), aI cI s13 60 (sre 1), oL s2 s21 s22 s23 (sf 2), aI cI s21 3 (sse 2), aI cI s22 7 (sto 2), aI cI s23 60 (sre 2), oL s3 s31 s32 s33 (sf 3), aI cI s31 3 (sse 3), aI cI s32 7 (sto 3), aI cI s33 60 (sre 3), oL h h1 h2 h3 f, aI cI h1 3 se, aI cI h2 7 to, aI cI h3 60 re, oP z1 pf, oT y1 y2 tf, aC cC y2 60 ch, oL o o1 o2 o3 of, aI cI o1 3 ose, aI cI o2 7 oto, aI cI o3 60 ore, oK t1 kf, aI cI ag 18 ug, aI cI ar 60 ur, aI cI ad 10 ud]) A) ([.ref x0, .ref ag, .ref ar, .ref ad, .int p1] : List Value).toArray s 1 7 A) (F0 m 390 ls [.int (j390_0_L_acts y), .int (nI (8 + y % 3)), .ref ag]) := by
                intro ls hl
                refine ag_ist (k := 8 + y % 3) hx hb hK hP hD hS 31 rfl rfl (by have := Nat.mod_lt y (show 0 < 3 by decide); omega) (Nat.le_of_ble_eq_true rfl) dL_acts_390 (fun H locs hP hD hS => ?_)
                have hP : va_P D vwCl [oX x0 h o t1 x1 y1 z1, oH x1 x2 hf, aL cL x2 (gS s0 s1 s2 s3), oL s0 s01 s02 s03 (sf 0), aI cI s01 3 (sse 0), aI cI s02 7 (sto 0), aI cI s03 60 (sre 0), oL s1 s11 s12 s13 (sf 1), aI cI s11 3 (sse 1), aI cI s12 7 (sto 1), aI cI s13 60 (sre 1), oL s2 s21 s22 s23 (sf 2), aI cI s21 3 (sse 2), aI cI s22 7 (sto 2), aI cI s23 60 (sre 2), oL s3 s31 s32 s33 (sf 3), aI cI s31 3 (sse 3), aI cI s32 7 (sto 3), aI cI s33 60 (sre 3), oL h h1 h2 h3 f, aI cI h1 3 se, aI cI h2 7 to, aI cI h3 60 re, oP z1 pf, oT y1 y2 tf, aC cC y2 60 ch, oL o o1 o2 o3 of, aI cI o1 3 ose, aI cI o2 7 oto, aI cI o3 60 ore, oK t1 kf, aI cI ag 18 (upd ug (8 + y % 3) (j390_0_L_acts y)), aI cI ar 60 ur, aI cI ad 10 ud] H := hP
                have hD : va_D A [oX x0 h o t1 x1 y1 z1, oH x1 x2 hf, aL cL x2 (gS s0 s1 s2 s3), oL s0 s01 s02 s03 (sf 0), aI cI s01 3 (sse 0), aI cI s02 7 (sto 0), aI cI s03 60 (sre 0), oL s1 s11 s12 s13 (sf 1), aI cI s11 3 (sse 1), aI cI s12 7 (sto 1), aI cI s13 60 (sre 1), oL s2 s21 s22 s23 (sf 2), aI cI s21 3 (sse 2), aI cI s22 7 (sto 2), aI cI s23 60 (sre 2), oL s3 s31 s32 s33 (sf 3), aI cI s31 3 (sse 3), aI cI s32 7 (sto 3), aI cI s33 60 (sre 3), oL h h1 h2 h3 f, aI cI h1 3 se, aI cI h2 7 to, aI cI h3 60 re, oP z1 pf, oT y1 y2 tf, aC cC y2 60 ch, oL o o1 o2 o3 of, aI cI o1 3 ose, aI cI o2 7 oto, aI cI o3 60 ore, oK t1 kf, aI cI ag 18 (upd ug (8 + y % 3) (j390_0_L_acts y)), aI cI ar 60 ur, aI cI ad 10 ud] := hD
                refine lv_aload_n hx hb dL_acts_391 rfl (lv_at hl 0 rfl) ?_
                refine lv_iload hx hb dL_acts_392 (lv_at hl 7 rfl) ?_
                refine lv_aload_n hx hb dL_acts_394 rfl (lv_at hl 1 rfl) ?_
                refine lv_bipush (v := 8) hx hb dL_acts_395 (by decide) ?_
                refine lv_iload hx hb dL_acts_397 (lv_at hl 7 rfl) ?_
                refine lv_iadd hx hb dL_acts_399 ?_
                refine ag_tope (nI (8 + y % 3)) (nI_add 8 _) ?_
                refine ag_ild (k := 8 + y % 3) (v := j390_0_L_acts y) hx hb hK hP 31 rfl rfl (by have := Nat.mod_lt y (show 0 < 3 by decide); omega) (Nat.le_of_ble_eq_true rfl) pk_us dL_acts_400 ?_
                refine ag_callVi (As := [.int (nI (y % 3)), .int (j390_0_L_acts y)]) (rest := []) hx hb hml hown hG hK hN hA hP hD hS hl (ct_X5_set l D cI cC cL x0 h o t1 x1 y1 z1 x2 s0 s01 s02 s03 s1 s11 s12 s13 s2 s21 s22 s23 s3 s31 s32 s33 h1 h2 h3 y2 o1 o2 o3 hf f se to re pf tf ch of ose oto ore kf (nI (y % 3)) (j390_0_L_acts y) sf sse sto sre) fX5_set k_320 (ag_cut_1 [] [aI cI ag 18 (upd ug (8 + y % 3) (j390_0_L_acts y)), aI cI ar 60 ur, aI cI ad 10 ud] rfl) (q0 := 0) rfl rfl rfl rfl (Nat.le_of_ble_eq_true rfl) ⟨Nat.le_of_ble_eq_true rfl, Nat.le_of_ble_eq_true rfl⟩ ⟨Nat.zero_le _, Nat.zero_le _⟩ dL_acts_401 (fun r w1 H locs hw hP hD hS => ?_)
                obtain ⟨rfl, hw⟩ := hw
                generalize eg401_29 : sw1_X5_set hf se (nI (y % 3)) (j390_0_L_acts y) = g401_29 at hw
                replace eg401_29 : gv401_29_L_acts hf se y = g401_29 := (by rw [← eg401_29]; rfl)
                generalize eg401_30 : fw_sf_X5_set hf f se (nI (y % 3)) (j390_0_L_acts y) sf = g401_30 at hw
                replace eg401_30 : gv401_30_L_acts hf f se sf y = g401_30 := (by rw [← eg401_30]; rfl)
                generalize eg401_31 : fw_sse_X5_set hf se (nI (y % 3)) (j390_0_L_acts y) sse = g401_31 at hw
                replace eg401_31 : gv401_31_L_acts hf se sse y = g401_31 := (by rw [← eg401_31]; rfl)
                generalize eg401_32 : fw_sto_X5_set hf se to (nI (y % 3)) (j390_0_L_acts y) sto = g401_32 at hw
                replace eg401_32 : gv401_32_L_acts hf se to sto y = g401_32 := (by rw [← eg401_32]; rfl)
                generalize eg401_33 : fw_sre_X5_set hf se re (nI (y % 3)) (j390_0_L_acts y) sre = g401_33 at hw
                replace eg401_33 : gv401_33_L_acts hf se re sre y = g401_33 := (by rw [← eg401_33]; rfl)
                generalize eg401_34 : sw19_X5_set f se (nI (y % 3)) (j390_0_L_acts y) = g401_34 at hw
                replace eg401_34 : gv401_34_L_acts f se y = g401_34 := (by rw [← eg401_34]; rfl)
                generalize eg401_35 : sw20_X5_set se (nI (y % 3)) (j390_0_L_acts y) = g401_35 at hw
                replace eg401_35 : gv401_35_L_acts se y = g401_35 := (by rw [← eg401_35]; rfl)
                generalize eg401_36 : sw21_X5_set se to (nI (y % 3)) (j390_0_L_acts y) = g401_36 at hw
                replace eg401_36 : gv401_36_L_acts se to y = g401_36 := (by rw [← eg401_36]; rfl)
                generalize eg401_37 : sw22_X5_set se re (nI (y % 3)) (j390_0_L_acts y) = g401_37 at hw
                replace eg401_37 : gv401_37_L_acts se re y = g401_37 := (by rw [← eg401_37]; rfl)
                generalize eg401_38 : sw26_X5_set f = g401_38 at hw
                replace eg401_38 : gv401_38_L_acts f = g401_38 := (by rw [← eg401_38]; rfl)
                generalize eg401_39 : sw27_X5_set se (nI (y % 3)) (j390_0_L_acts y) = g401_39 at hw
                replace eg401_39 : gv401_39_L_acts se y = g401_39 := (by rw [← eg401_39]; rfl)
                generalize eg401_40 : sw28_X5_set to = g401_40 at hw
                replace eg401_40 : gv401_40_L_acts to = g401_40 := (by rw [← eg401_40]; rfl)
                generalize eg401_41 : sw29_X5_set re = g401_41 at hw
                replace eg401_41 : gv401_41_L_acts re = g401_41 := (by rw [← eg401_41]; rfl)
                subst hw
                have hP : va_P D vwCl [oX x0 h o t1 x1 y1 z1, oH x1 x2 g401_29, aL cL x2 (gS s0 s1 s2 s3), oL s0 s01 s02 s03 (g401_30 0), aI cI s01 3 (g401_31 0), aI cI s02 7 (g401_32 0), aI cI s03 60 (g401_33 0), oL s1 s11 s12 s13 (g401_30 1), aI cI s11 3 (g401_31 1), aI cI s12 7 (g401_32 1), aI cI s13 60 (g401_33 1), oL s2 s21 s22 s23 (g401_30 2), aI cI s21 3 (g401_31 2), aI cI s22 7 (g401_32 2), aI cI s23 60 (g401_33 2), oL s3 s31 s32 s33 (g401_30 3), aI cI s31 3 (g401_31 3), aI cI s32 7 (g401_32 3), aI cI s33 60 (g401_33 3), oL h h1 h2 h3 g401_34, aI cI h1 3 g401_35, aI cI h2 7 g401_36, aI cI h3 60 g401_37, oP z1 pf, oT y1 y2 tf, aC cC y2 60 ch, oL o o1 o2 o3 g401_38, aI cI o1 3 g401_39, aI cI o2 7 g401_40, aI cI o3 60 g401_41, oK t1 kf, aI cI ag 18 (upd ug (8 + y % 3) (j390_0_L_acts y)), aI cI ar 60 ur, aI cI ad 10 ud] H := hP
                have hD : va_D A [oX x0 h o t1 x1 y1 z1, oH x1 x2 g401_29, aL cL x2 (gS s0 s1 s2 s3), oL s0 s01 s02 s03 (g401_30 0), aI cI s01 3 (g401_31 0), aI cI s02 7 (g401_32 0), aI cI s03 60 (g401_33 0), oL s1 s11 s12 s13 (g401_30 1), aI cI s11 3 (g401_31 1), aI cI s12 7 (g401_32 1), aI cI s13 60 (g401_33 1), oL s2 s21 s22 s23 (g401_30 2), aI cI s21 3 (g401_31 2), aI cI s22 7 (g401_32 2), aI cI s23 60 (g401_33 2), oL s3 s31 s32 s33 (g401_30 3), aI cI s31 3 (g401_31 3), aI cI s32 7 (g401_32 3), aI cI s33 60 (g401_33 3), oL h h1 h2 h3 g401_34, aI cI h1 3 g401_35, aI cI h2 7 g401_36, aI cI h3 60 g401_37, oP z1 pf, oT y1 y2 tf, aC cC y2 60 ch, oL o o1 o2 o3 g401_38, aI cI o1 3 g401_39, aI cI o2 7 g401_40, aI cI o3 60 g401_41, oK t1 kf, aI cI ag 18 (upd ug (8 + y % 3) (j390_0_L_acts y)), aI cI ar 60 ur, aI cI ad 10 ud] := hD
                refine lv_iload hx hb dL_acts_404 (lv_at hl 8 rfl) ?_
                refine lv_icmp_ne (tgt := 413) hx hb dL_acts_406 (by decide) (fun h0 => absurd h0 (not_not_intro (s_setv hZ hy).1)) (fun _ => ?_)
                refine lv_iconst (v := 1) hx hb dL_acts_409 (by decide) ?_
                refine lv_goto (tgt := 414) hx hb dL_acts_410 (by decide) ?_
                revert hP; revert hD; revert hS; revert hl
                subst eg401_41
                subst eg401_40
                subst eg401_39
                subst eg401_38
                subst eg401_37
                subst eg401_36
                subst eg401_35
                subst eg401_34
                subst eg401_33
                subst eg401_32
                subst eg401_31
                subst eg401_30
                subst eg401_29
                intro hl hS hD hP
                refine W.widen (k := 1) (n := 7) (Nat.zero_le _) (Nat.zero_le _) ?_
                exact ag_iretn [x0, x1, x2, s0, s01, s02, s03, s1, s11, s12, s13, s2, s21, s22, s23, s3, s31, s32, s33, h, h1, h2, h3, z1, y1, y2, o, o1, o2, o3, t1, ag, ar, ad] hx hb hr (by decide) hlocks hP hS rfl rfl ⟨rfl, (gv401_29_L_acts hf se y), (gv401_34_L_acts f se y), (gv401_35_L_acts se y), (gv401_36_L_acts se to y), (gv401_37_L_acts se re y), pf, tf, ch, (gv401_38_L_acts f), (gv401_39_L_acts se y), (gv401_40_L_acts to), (gv401_41_L_acts re), kf, upd ug (8 + y % 3) (j390_0_L_acts y), ur, ud, (gv401_30_L_acts hf f se sf y), (gv401_31_L_acts hf se sse y), (gv401_32_L_acts hf se to sto y), (gv401_33_L_acts hf se re sre y), rfl, (s_setv hZ hy).2⟩ dL_acts_414
              refine lv_if_ne (tgt := 350) hx hb dL_acts_334 (by decide) (fun c_334 => ?_) (fun c_334 => ?_)
              · refine lv_iload hx hb dL_acts_350 (lv_at hl 1 rfl) ?_
                refine lv_iconst (v := 1) hx hb dL_acts_352 (by decide) ?_
                refine lv_icmp_ne (tgt := 367) hx hb dL_acts_353 (by decide) (fun c_353 => ?_) (fun c_353 => ?_)
                · refine lv_iconst (v := 1) hx hb dL_acts_367 (by decide) ?_
                  refine lv_iload hx hb dL_acts_368 (lv_at hl 3 rfl) ?_
                  refine lv_iconst (v := 3) hx hb dL_acts_370 (by decide) ?_
                  refine lv_idiv hx hb dL_acts_371 (by decide) ?_
                  refine ag_tope (nI (y / 3)) (qdiv 3 rfl (by decide) (by decide) (by omega)) ?_
                  refine lv_iload hx hb dL_acts_372 (lv_at hl 3 rfl) ?_
                  refine lv_iconst (v := 2) hx hb dL_acts_374 (by decide) ?_
                  refine lv_irem hx hb dL_acts_375 (by decide) ?_
                  refine ag_tope (nI (y % 2)) (qrem 2 rfl (by decide) (by decide) (by omega)) ?_
                  have J388 : ∀ (ls : Array Slot), lv_has ls 9 [(0, .ref x0), (1, .ref ag), (2, .ref ar), (3, .ref ad), (4, .int p1), (5, .int (nI y)), (6, .int (sr_L_low p1 32)), (7, .int (nI (y % 3))), (8, .int (ug (8 + y % 3)))] → W p l e (ag_rn 6 131 1 7) s m ([.ref x0, .ref ag, .ref ar, .ref ad, .int p1] : List Value).toArray below meth c H locs 0 0 (MQ below (va_Qi (po_L_acts cI cC cL x0 ag ar ad h o t1 x1 y1 z1 x2 s0 s01 s02 s03 s1 s11 s12 s13 s2 s21 s22 s23 s3 s31 s32 s33 h1 h2 h3 y2 o1 o2 o3 hf f se to re pf tf ch of ose oto ore kf ug ur ud p1 sf sse sto sre hZ) (ag_Out D [oX x0 h o t1 x1 y1 z1, oH x1 x2 hf, aL cL x2 (gS s0 s1 s2 s3), oL s0 s01 s02 s03 (sf 0), aI cI s01 3 (sse 0), aI cI s02 7 (sto 0), aI cI s03 60 (sre 0), oL s1 s11 s12 s13 (sf 1), aI cI s11 3 (sse 1), aI cI s12 7 (sto 1), aI cI s13 60 (sre 1), oL s2 s21 s22 s23 (sf 2), aI cI s21 3 (sse 2), aI cI s22 7 (sto 2), aI cI s23 60 (sre 2), oL s3 s31 s32 s33 (sf 3), aI cI s31 3 (sse 3), aI cI s32 7 (sto 3), aI cI s33 60 (sre 3), oL h h1 h2 h3 f, aI cI h1 3 se, aI cI h2 7 to, aI cI h3 60 re, oP z1 pf, oT y1 y2 tf, aC cC y2 60 ch, oL o o1 o2 o3 of, aI cI o1 3 ose, aI cI o2 7 oto, aI cI o3 60 ore, oK t1 kf, aI cI ag 18 ug, aI cI ar 60 ur, aI cI ad 10 ud]) A) ([.ref x0, .ref ag, .ref ar, .ref ad, .int p1] : List Value).toArray s 1 7 A) (F0 m 388 ls [.int (j388_0_L_acts y), .int (nI (y / 3)), .int 1, .int (nI (8 + y % 3)), .ref ag]) := by
                    intro ls hl
                    refine lv_irem hx hb dL_acts_388 (m6_nz y) ?_
                    refine ag_tope (nI (y / 3 % m6 y)) (qrem (m6 y) (m6_e y) (m6_b y).1 (m6_b y).2.1 (by omega)) ?_
                    refine lv_iadd hx hb dL_acts_389 ?_
                    refine ag_tope (nI (1 + y / 3 % m6 y)) (nI_add 1 _) ?_
                    simp only [j390_0_L_acts, if_neg c_334, if_neg c_353] at J390
                    exact J390 _ (lv_sub hl [0, 1, 2, 3, 4, 5, 6, 7, 8] rfl)
                  refine lv_if_ne (tgt := 385) hx hb dL_acts_376 (by decide) (fun c_376 => ?_) (fun c_376 => ?_)
                  · refine lv_sipush (v := 900) hx hb dL_acts_385 (by decide) ?_
                    simp only [j388_0_L_acts, if_neg c_376] at J388
                    exact J388 _ (lv_sub hl [4, 5, 6, 7, 8, 3, 2, 1, 0] rfl)
                  · refine lv_sipush (v := 9999) hx hb dL_acts_379 (by decide) ?_
                    refine lv_goto (tgt := 388) hx hb dL_acts_382 (by decide) ?_
                    simp only [j388_0_L_acts, if_pos c_376] at J388
                    exact J388 _ (lv_sub hl [4, 5, 6, 7, 8, 3, 2, 1, 0] rfl)
                · refine lv_iload hx hb dL_acts_356 (lv_at hl 3 rfl) ?_
                  refine lv_iconst (v := 3) hx hb dL_acts_358 (by decide) ?_
                  refine lv_idiv hx hb dL_acts_359 (by decide) ?_
                  refine ag_tope (nI (y / 3)) (qdiv 3 rfl (by decide) (by decide) (by omega)) ?_
                  refine lv_sipush (v := 401) hx hb dL_acts_360 (by decide) ?_
                  refine lv_irem hx hb dL_acts_363 (by decide) ?_
                  refine ag_tope (nI (y / 3 % 401)) (qrem 401 rfl (by decide) (by decide) (by omega)) ?_
                  refine lv_goto (tgt := 390) hx hb dL_acts_364 (by decide) ?_
                  simp only [j390_0_L_acts, if_neg c_334, if_pos c_353] at J390
                  exact J390 _ (lv_sub hl [4, 5, 6, 7, 8, 3, 2, 1, 0] rfl)
              · refine lv_iconst (v := 1) hx hb dL_acts_337 (by decide) ?_
                refine lv_iload hx hb dL_acts_338 (lv_at hl 3 rfl) ?_
                refine lv_iconst (v := 3) hx hb dL_acts_340 (by decide) ?_
                refine lv_idiv hx hb dL_acts_341 (by decide) ?_
                refine ag_tope (nI (y / 3)) (qdiv 3 rfl (by decide) (by decide) (by omega)) ?_
                refine lv_sipush (v := 400) hx hb dL_acts_342 (by decide) ?_
                refine lv_irem hx hb dL_acts_345 (by decide) ?_
                refine ag_tope (nI (y / 3 % 400)) (qrem 400 rfl (by decide) (by decide) (by omega)) ?_
                refine lv_iadd hx hb dL_acts_346 ?_
                refine ag_tope (nI (1 + y / 3 % 400)) (nI_add 1 _) ?_
                refine lv_goto (tgt := 390) hx hb dL_acts_347 (by decide) ?_
                simp only [j390_0_L_acts, if_pos c_334] at J390
                exact J390 _ (lv_sub hl [4, 5, 6, 7, 8, 3, 2, 1, 0] rfl)
          · refine lv_iconst (v := 1) hx hb dL_acts_221 (by decide) ?_
            refine lv_iload hx hb dL_acts_222 (lv_at hl 1 rfl) ?_
            refine lv_iload hx hb dL_acts_224 (lv_at hl 1 rfl) ?_
            refine lv_iconst (v := 3) hx hb dL_acts_226 (by decide) ?_
            refine lv_irem hx hb dL_acts_227 (by decide) ?_
            refine ag_tope (nI (y % 3)) (qrem 3 rfl (by decide) (by decide) (by omega)) ?_
            have J240 : ∀ (ls : Array Slot), lv_has ls 9 [(0, .ref x0), (1, .ref ag), (2, .ref ar), (3, .ref ad), (4, .int p1), (5, .int (nI y)), (6, .int (sr_L_low p1 32))] → W p l e (ag_rn 6 131 1 7) s m ([.ref x0, .ref ag, .ref ar, .ref ad, .int p1] : List Value).toArray below meth c H locs 0 0 (MQ below (va_Qi (po_L_acts cI cC cL x0 ag ar ad h o t1 x1 y1 z1 x2 s0 s01 s02 s03 s1 s11 s12 s13 s2 s21 s22 s23 s3 s31 s32 s33 h1 h2 h3 y2 o1 o2 o3 hf f se to re pf tf ch of ose oto ore kf ug ur ud p1 sf sse sto sre hZ) (ag_Out D [oX x0 h o t1 x1 y1 z1, oH x1 x2 hf, aL cL x2 (gS s0 s1 s2 s3), oL s0 s01 s02 s03 (sf 0), aI cI s01 3 (sse 0), aI cI s02 7 (sto 0), aI cI s03 60 (sre 0), oL s1 s11 s12 s13 (sf 1), aI cI s11 3 (sse 1), aI cI s12 7 (sto 1), aI cI s13 60 (sre 1), oL s2 s21 s22 s23 (sf 2), aI cI s21 3 (sse 2), aI cI s22 7 (sto 2), aI cI s23 60 (sre 2), oL s3 s31 s32 s33 (sf 3), aI cI s31 3 (sse 3), aI cI s32 7 (sto 3), aI cI s33 60 (sre 3), oL h h1 h2 h3 f, aI cI h1 3 se, aI cI h2 7 to, aI cI h3 60 re, oP z1 pf, oT y1 y2 tf, aC cC y2 60 ch, oL o o1 o2 o3 of, aI cI o1 3 ose, aI cI o2 7 oto, aI cI o3 60 ore, oK t1 kf, aI cI ag 18 ug, aI cI ar 60 ur, aI cI ad 10 ud]) A) ([.ref x0, .ref ag, .ref ar, .ref ad, .int p1] : List Value).toArray s 1 7 A) (F0 m 240 ls [.int (j240_0_L_acts y), .int (nI y), .int 1]) := by
              intro ls hl
              refine lv_irem hx hb dL_acts_240 (m5_nz y) ?_
              refine ag_tope (nI (y % m5 y)) (qrem (m5 y) (m5_e y) (m5_b y).1 (m5_b y).2.1 (by omega)) ?_
              refine lv_iadd hx hb dL_acts_241 ?_
              refine ag_tope (nI (1 + y % m5 y)) (nI_add 1 _) ?_
              refine lv_istore (lv' := [(7, .int (nI (1 + y % m5 y))), (0, .ref x0), (1, .ref ag), (2, .ref ar), (3, .ref ad), (4, .int p1), (5, .int (nI y)), (6, .int (sr_L_low p1 32))]) hx hb dL_acts_242 hl (by decide) rfl (fun ls hl => ?_)
              refine lv_iload hx hb dL_acts_244 (lv_at hl 0 rfl) ?_
              refine lv_aload_n hx hb dL_acts_246 rfl (lv_at hl 2 rfl) ?_
              refine lv_iconst (v := 2) hx hb dL_acts_247 (by decide) ?_
              refine ag_ild (k := 2) (v := ug 2) hx hb hK hP 31 rfl rfl (Nat.le_of_ble_eq_true rfl) (Nat.le_of_ble_eq_true rfl) rfl dL_acts_248 ?_
              refine lv_icmp_le (tgt := 269) hx hb dL_acts_249 (by decide) (fun c_249 => ?_) (fun c_249 => ?_)
              · refine lv_aload_n hx hb dL_acts_269 rfl (lv_at hl 2 rfl) ?_
                refine lv_iconst (v := 2) hx hb dL_acts_270 (by decide) ?_
                refine lv_dup2_11 hx hb dL_acts_271 rfl rfl ?_
                refine ag_ild (k := 2) (v := ug 2) hx hb hK hP 31 rfl rfl (Nat.le_of_ble_eq_true rfl) (Nat.le_of_ble_eq_true rfl) rfl dL_acts_272 ?_
                refine lv_iload hx hb dL_acts_273 (lv_at hl 0 rfl) ?_
                refine lv_isub hx hb dL_acts_275 ?_
                refine ag_ist (k := 2) hx hb hK hP hD hS 31 rfl rfl (Nat.le_of_ble_eq_true rfl) (Nat.le_of_ble_eq_true rfl) dL_acts_276 (fun H locs hP hD hS => ?_)
                have hP : va_P D vwCl [oX x0 h o t1 x1 y1 z1, oH x1 x2 hf, aL cL x2 (gS s0 s1 s2 s3), oL s0 s01 s02 s03 (sf 0), aI cI s01 3 (sse 0), aI cI s02 7 (sto 0), aI cI s03 60 (sre 0), oL s1 s11 s12 s13 (sf 1), aI cI s11 3 (sse 1), aI cI s12 7 (sto 1), aI cI s13 60 (sre 1), oL s2 s21 s22 s23 (sf 2), aI cI s21 3 (sse 2), aI cI s22 7 (sto 2), aI cI s23 60 (sre 2), oL s3 s31 s32 s33 (sf 3), aI cI s31 3 (sse 3), aI cI s32 7 (sto 3), aI cI s33 60 (sre 3), oL h h1 h2 h3 f, aI cI h1 3 se, aI cI h2 7 to, aI cI h3 60 re, oP z1 pf, oT y1 y2 tf, aC cC y2 60 ch, oL o o1 o2 o3 of, aI cI o1 3 ose, aI cI o2 7 oto, aI cI o3 60 ore, oK t1 kf, aI cI ag 18 (upd ug 2 ((ug 2) - (nI (1 + y % m5 y)))), aI cI ar 60 ur, aI cI ad 10 ud] H := hP
                have hD : va_D A [oX x0 h o t1 x1 y1 z1, oH x1 x2 hf, aL cL x2 (gS s0 s1 s2 s3), oL s0 s01 s02 s03 (sf 0), aI cI s01 3 (sse 0), aI cI s02 7 (sto 0), aI cI s03 60 (sre 0), oL s1 s11 s12 s13 (sf 1), aI cI s11 3 (sse 1), aI cI s12 7 (sto 1), aI cI s13 60 (sre 1), oL s2 s21 s22 s23 (sf 2), aI cI s21 3 (sse 2), aI cI s22 7 (sto 2), aI cI s23 60 (sre 2), oL s3 s31 s32 s33 (sf 3), aI cI s31 3 (sse 3), aI cI s32 7 (sto 3), aI cI s33 60 (sre 3), oL h h1 h2 h3 f, aI cI h1 3 se, aI cI h2 7 to, aI cI h3 60 re, oP z1 pf, oT y1 y2 tf, aC cC y2 60 ch, oL o o1 o2 o3 of, aI cI o1 3 ose, aI cI o2 7 oto, aI cI o3 60 ore, oK t1 kf, aI cI ag 18 (upd ug 2 ((ug 2) - (nI (1 + y % m5 y)))), aI cI ar 60 ur, aI cI ad 10 ud] := hD
                refine lv_aload_n hx hb dL_acts_277 rfl (lv_at hl 2 rfl) ?_
                refine lv_bipush (v := 15) hx hb dL_acts_278 (by decide) ?_
                refine lv_dup2_11 hx hb dL_acts_280 rfl rfl ?_
                refine ag_ild (k := 15) (v := ug 15) hx hb hK hP 31 rfl rfl (Nat.le_of_ble_eq_true rfl) (Nat.le_of_ble_eq_true rfl) rfl dL_acts_281 ?_
                refine lv_iload hx hb dL_acts_282 (lv_at hl 0 rfl) ?_
                refine lv_iadd hx hb dL_acts_284 ?_
                refine ag_ist (k := 15) hx hb hK hP hD hS 31 rfl rfl (Nat.le_of_ble_eq_true rfl) (Nat.le_of_ble_eq_true rfl) dL_acts_285 (fun H locs hP hD hS => ?_)
                have hP : va_P D vwCl [oX x0 h o t1 x1 y1 z1, oH x1 x2 hf, aL cL x2 (gS s0 s1 s2 s3), oL s0 s01 s02 s03 (sf 0), aI cI s01 3 (sse 0), aI cI s02 7 (sto 0), aI cI s03 60 (sre 0), oL s1 s11 s12 s13 (sf 1), aI cI s11 3 (sse 1), aI cI s12 7 (sto 1), aI cI s13 60 (sre 1), oL s2 s21 s22 s23 (sf 2), aI cI s21 3 (sse 2), aI cI s22 7 (sto 2), aI cI s23 60 (sre 2), oL s3 s31 s32 s33 (sf 3), aI cI s31 3 (sse 3), aI cI s32 7 (sto 3), aI cI s33 60 (sre 3), oL h h1 h2 h3 f, aI cI h1 3 se, aI cI h2 7 to, aI cI h3 60 re, oP z1 pf, oT y1 y2 tf, aC cC y2 60 ch, oL o o1 o2 o3 of, aI cI o1 3 ose, aI cI o2 7 oto, aI cI o3 60 ore, oK t1 kf, aI cI ag 18 (upd (upd ug 2 ((ug 2) - (nI (1 + y % m5 y)))) 15 ((ug 15) + (nI (1 + y % m5 y)))), aI cI ar 60 ur, aI cI ad 10 ud] H := hP
                have hD : va_D A [oX x0 h o t1 x1 y1 z1, oH x1 x2 hf, aL cL x2 (gS s0 s1 s2 s3), oL s0 s01 s02 s03 (sf 0), aI cI s01 3 (sse 0), aI cI s02 7 (sto 0), aI cI s03 60 (sre 0), oL s1 s11 s12 s13 (sf 1), aI cI s11 3 (sse 1), aI cI s12 7 (sto 1), aI cI s13 60 (sre 1), oL s2 s21 s22 s23 (sf 2), aI cI s21 3 (sse 2), aI cI s22 7 (sto 2), aI cI s23 60 (sre 2), oL s3 s31 s32 s33 (sf 3), aI cI s31 3 (sse 3), aI cI s32 7 (sto 3), aI cI s33 60 (sre 3), oL h h1 h2 h3 f, aI cI h1 3 se, aI cI h2 7 to, aI cI h3 60 re, oP z1 pf, oT y1 y2 tf, aC cC y2 60 ch, oL o o1 o2 o3 of, aI cI o1 3 ose, aI cI o2 7 oto, aI cI o3 60 ore, oK t1 kf, aI cI ag 18 (upd (upd ug 2 ((ug 2) - (nI (1 + y % m5 y)))) 15 ((ug 15) + (nI (1 + y % m5 y)))), aI cI ar 60 ur, aI cI ad 10 ud] := hD
                refine lv_aload_n hx hb dL_acts_286 rfl (lv_at hl 1 rfl) ?_
                refine lv_iload hx hb dL_acts_287 (lv_at hl 0 rfl) ?_
                refine ag_callVi (As := [.int (nI (1 + y % m5 y))]) (rest := []) hx hb hml hown hG hK hN hA hP hD hS hl (ct_X5_dredge l D cI cC cL x0 h o t1 x1 y1 z1 x2 s0 s01 s02 s03 s1 s11 s12 s13 s2 s21 s22 s23 s3 s31 s32 s33 h1 h2 h3 y2 o1 o2 o3 hf f se to re pf tf ch of ose oto ore kf (nI (1 + y % m5 y)) sf sse sto sre) fX5_dredge k_310 (ag_cut_1 [] [aI cI ag 18 (upd (upd ug 2 ((ug 2) - (nI (1 + y % m5 y)))) 15 ((ug 15) + (nI (1 + y % m5 y)))), aI cI ar 60 ur, aI cI ad 10 ud] rfl) (q0 := 0) rfl rfl rfl rfl (Nat.le_of_ble_eq_true rfl) ⟨Nat.le_of_ble_eq_true rfl, Nat.le_of_ble_eq_true rfl⟩ ⟨Nat.zero_le _, Nat.zero_le _⟩ dL_acts_289 (fun r w1 H locs hw hP hD hS => ?_)
                obtain ⟨rfl, hw⟩ := hw
                generalize eg289_42 : sw1_X5_dredge hf f (nI (1 + y % m5 y)) = g289_42 at hw
                replace eg289_42 : gv289_42_L_acts hf f y = g289_42 := (by rw [← eg289_42]; rfl)
                generalize eg289_43 : fw_sf_X5_dredge hf f (nI (1 + y % m5 y)) sf = g289_43 at hw
                replace eg289_43 : gv289_43_L_acts hf f sf y = g289_43 := (by rw [← eg289_43]; rfl)
                generalize eg289_44 : fw_sse_X5_dredge hf f se (nI (1 + y % m5 y)) sse = g289_44 at hw
                replace eg289_44 : gv289_44_L_acts hf f se sse y = g289_44 := (by rw [← eg289_44]; rfl)
                generalize eg289_45 : fw_sto_X5_dredge hf f to (nI (1 + y % m5 y)) sto = g289_45 at hw
                replace eg289_45 : gv289_45_L_acts hf f to sto y = g289_45 := (by rw [← eg289_45]; rfl)
                generalize eg289_46 : fw_sre_X5_dredge hf f re (nI (1 + y % m5 y)) sre = g289_46 at hw
                replace eg289_46 : gv289_46_L_acts hf f re sre y = g289_46 := (by rw [← eg289_46]; rfl)
                generalize eg289_47 : sw19_X5_dredge f (nI (1 + y % m5 y)) = g289_47 at hw
                replace eg289_47 : gv289_47_L_acts f y = g289_47 := (by rw [← eg289_47]; rfl)
                generalize eg289_48 : sw20_X5_dredge f se (nI (1 + y % m5 y)) = g289_48 at hw
                replace eg289_48 : gv289_48_L_acts f se y = g289_48 := (by rw [← eg289_48]; rfl)
                generalize eg289_49 : sw21_X5_dredge f to (nI (1 + y % m5 y)) = g289_49 at hw
                replace eg289_49 : gv289_49_L_acts f to y = g289_49 := (by rw [← eg289_49]; rfl)
                generalize eg289_50 : sw22_X5_dredge f re (nI (1 + y % m5 y)) = g289_50 at hw
                replace eg289_50 : gv289_50_L_acts f re y = g289_50 := (by rw [← eg289_50]; rfl)
                generalize eg289_51 : sw26_X5_dredge f (nI (1 + y % m5 y)) = g289_51 at hw
                replace eg289_51 : gv289_51_L_acts f y = g289_51 := (by rw [← eg289_51]; rfl)
                generalize eg289_52 : sw27_X5_dredge se = g289_52 at hw
                replace eg289_52 : gv289_52_L_acts se = g289_52 := (by rw [← eg289_52]; rfl)
                generalize eg289_53 : sw28_X5_dredge f to (nI (1 + y % m5 y)) = g289_53 at hw
                replace eg289_53 : gv289_53_L_acts f to y = g289_53 := (by rw [← eg289_53]; rfl)
                generalize eg289_54 : sw29_X5_dredge re = g289_54 at hw
                replace eg289_54 : gv289_54_L_acts re = g289_54 := (by rw [← eg289_54]; rfl)
                subst hw
                have hP : va_P D vwCl [oX x0 h o t1 x1 y1 z1, oH x1 x2 g289_42, aL cL x2 (gS s0 s1 s2 s3), oL s0 s01 s02 s03 (g289_43 0), aI cI s01 3 (g289_44 0), aI cI s02 7 (g289_45 0), aI cI s03 60 (g289_46 0), oL s1 s11 s12 s13 (g289_43 1), aI cI s11 3 (g289_44 1), aI cI s12 7 (g289_45 1), aI cI s13 60 (g289_46 1), oL s2 s21 s22 s23 (g289_43 2), aI cI s21 3 (g289_44 2), aI cI s22 7 (g289_45 2), aI cI s23 60 (g289_46 2), oL s3 s31 s32 s33 (g289_43 3), aI cI s31 3 (g289_44 3), aI cI s32 7 (g289_45 3), aI cI s33 60 (g289_46 3), oL h h1 h2 h3 g289_47, aI cI h1 3 g289_48, aI cI h2 7 g289_49, aI cI h3 60 g289_50, oP z1 pf, oT y1 y2 tf, aC cC y2 60 ch, oL o o1 o2 o3 g289_51, aI cI o1 3 g289_52, aI cI o2 7 g289_53, aI cI o3 60 g289_54, oK t1 kf, aI cI ag 18 (upd (upd ug 2 ((ug 2) - (nI (1 + y % m5 y)))) 15 ((ug 15) + (nI (1 + y % m5 y)))), aI cI ar 60 ur, aI cI ad 10 ud] H := hP
                have hD : va_D A [oX x0 h o t1 x1 y1 z1, oH x1 x2 g289_42, aL cL x2 (gS s0 s1 s2 s3), oL s0 s01 s02 s03 (g289_43 0), aI cI s01 3 (g289_44 0), aI cI s02 7 (g289_45 0), aI cI s03 60 (g289_46 0), oL s1 s11 s12 s13 (g289_43 1), aI cI s11 3 (g289_44 1), aI cI s12 7 (g289_45 1), aI cI s13 60 (g289_46 1), oL s2 s21 s22 s23 (g289_43 2), aI cI s21 3 (g289_44 2), aI cI s22 7 (g289_45 2), aI cI s23 60 (g289_46 2), oL s3 s31 s32 s33 (g289_43 3), aI cI s31 3 (g289_44 3), aI cI s32 7 (g289_45 3), aI cI s33 60 (g289_46 3), oL h h1 h2 h3 g289_47, aI cI h1 3 g289_48, aI cI h2 7 g289_49, aI cI h3 60 g289_50, oP z1 pf, oT y1 y2 tf, aC cC y2 60 ch, oL o o1 o2 o3 g289_51, aI cI o1 3 g289_52, aI cI o2 7 g289_53, aI cI o3 60 g289_54, oK t1 kf, aI cI ag 18 (upd (upd ug 2 ((ug 2) - (nI (1 + y % m5 y)))) 15 ((ug 15) + (nI (1 + y % m5 y)))), aI cI ar 60 ur, aI cI ad 10 ud] := hD
                refine lv_aload_n hx hb dL_acts_292 rfl (lv_at hl 2 rfl) ?_
                refine lv_iconst (v := 2) hx hb dL_acts_293 (by decide) ?_
                refine ag_ild (k := 2) (v := (ug 2) - (nI (1 + y % m5 y))) hx hb hK hP 31 rfl rfl (Nat.le_of_ble_eq_true rfl) (Nat.le_of_ble_eq_true rfl) rfl dL_acts_294 ?_
                refine lv_icmp_ne (tgt := 302) hx hb dL_acts_295 (by decide) (fun h0 => absurd h0 (not_not_intro (s_dredge hZ (by omega) (by have := m5_b y; have := Nat.mod_lt y (m5_b y).1; omega) c_249).1)) (fun _ => ?_)
                refine lv_iconst (v := 1) hx hb dL_acts_298 (by decide) ?_
                refine lv_goto (tgt := 303) hx hb dL_acts_299 (by decide) ?_
                revert hP; revert hD; revert hS; revert hl
                subst eg289_54
                subst eg289_53
                subst eg289_52
                subst eg289_51
                subst eg289_50
                subst eg289_49
                subst eg289_48
                subst eg289_47
                subst eg289_46
                subst eg289_45
                subst eg289_44
                subst eg289_43
                subst eg289_42
                intro hl hS hD hP
                refine W.widen (k := 1) (n := 7) (Nat.zero_le _) (Nat.zero_le _) ?_
                exact ag_iretn [x0, x1, x2, s0, s01, s02, s03, s1, s11, s12, s13, s2, s21, s22, s23, s3, s31, s32, s33, h, h1, h2, h3, z1, y1, y2, o, o1, o2, o3, t1, ag, ar, ad] hx hb hr (by decide) hlocks hP hS rfl rfl ⟨rfl, (gv289_42_L_acts hf f y), (gv289_47_L_acts f y), (gv289_48_L_acts f se y), (gv289_49_L_acts f to y), (gv289_50_L_acts f re y), pf, tf, ch, (gv289_51_L_acts f y), (gv289_52_L_acts se), (gv289_53_L_acts f to y), (gv289_54_L_acts re), kf, upd (upd ug 2 ((ug 2) - (nI (1 + y % m5 y)))) 15 ((ug 15) + (nI (1 + y % m5 y))), ur, ud, (gv289_43_L_acts hf f sf y), (gv289_44_L_acts hf f se sse y), (gv289_45_L_acts hf f to sto y), (gv289_46_L_acts hf f re sre y), rfl, (s_dredge hZ (by omega) (by have := m5_b y; have := Nat.mod_lt y (m5_b y).1; omega) c_249).2⟩ dL_acts_303
              · refine lv_aload_n hx hb dL_acts_252 rfl (lv_at hl 1 rfl) ?_
                refine lv_iload hx hb dL_acts_253 (lv_at hl 0 rfl) ?_
                refine ag_callVi (As := [.int (nI (1 + y % m5 y))]) (rest := []) hx hb hml hown hG hK hN hA hP hD hS hl (ct_X5_dredge l D cI cC cL x0 h o t1 x1 y1 z1 x2 s0 s01 s02 s03 s1 s11 s12 s13 s2 s21 s22 s23 s3 s31 s32 s33 h1 h2 h3 y2 o1 o2 o3 hf f se to re pf tf ch of ose oto ore kf (nI (1 + y % m5 y)) sf sse sto sre) fX5_dredge k_310 (ag_cut_1 [] [aI cI ag 18 ug, aI cI ar 60 ur, aI cI ad 10 ud] rfl) (q0 := 0) rfl rfl rfl rfl (Nat.le_of_ble_eq_true rfl) ⟨Nat.le_of_ble_eq_true rfl, Nat.le_of_ble_eq_true rfl⟩ ⟨Nat.zero_le _, Nat.zero_le _⟩ dL_acts_255 (fun r w1 H locs hw hP hD hS => ?_)
                obtain ⟨rfl, hw⟩ := hw
                generalize eg255_55 : sw1_X5_dredge hf f (nI (1 + y % m5 y)) = g255_55 at hw
                replace eg255_55 : gv255_55_L_acts hf f y = g255_55 := (by rw [← eg255_55]; rfl)
                generalize eg255_56 : fw_sf_X5_dredge hf f (nI (1 + y % m5 y)) sf = g255_56 at hw
                replace eg255_56 : gv255_56_L_acts hf f sf y = g255_56 := (by rw [← eg255_56]; rfl)
                generalize eg255_57 : fw_sse_X5_dredge hf f se (nI (1 + y % m5 y)) sse = g255_57 at hw
                replace eg255_57 : gv255_57_L_acts hf f se sse y = g255_57 := (by rw [← eg255_57]; rfl)
                generalize eg255_58 : fw_sto_X5_dredge hf f to (nI (1 + y % m5 y)) sto = g255_58 at hw
                replace eg255_58 : gv255_58_L_acts hf f to sto y = g255_58 := (by rw [← eg255_58]; rfl)
                generalize eg255_59 : fw_sre_X5_dredge hf f re (nI (1 + y % m5 y)) sre = g255_59 at hw
                replace eg255_59 : gv255_59_L_acts hf f re sre y = g255_59 := (by rw [← eg255_59]; rfl)
                generalize eg255_60 : sw19_X5_dredge f (nI (1 + y % m5 y)) = g255_60 at hw
                replace eg255_60 : gv255_60_L_acts f y = g255_60 := (by rw [← eg255_60]; rfl)
                generalize eg255_61 : sw20_X5_dredge f se (nI (1 + y % m5 y)) = g255_61 at hw
                replace eg255_61 : gv255_61_L_acts f se y = g255_61 := (by rw [← eg255_61]; rfl)
                generalize eg255_62 : sw21_X5_dredge f to (nI (1 + y % m5 y)) = g255_62 at hw
                replace eg255_62 : gv255_62_L_acts f to y = g255_62 := (by rw [← eg255_62]; rfl)
                generalize eg255_63 : sw22_X5_dredge f re (nI (1 + y % m5 y)) = g255_63 at hw
                replace eg255_63 : gv255_63_L_acts f re y = g255_63 := (by rw [← eg255_63]; rfl)
                generalize eg255_64 : sw26_X5_dredge f (nI (1 + y % m5 y)) = g255_64 at hw
                replace eg255_64 : gv255_64_L_acts f y = g255_64 := (by rw [← eg255_64]; rfl)
                generalize eg255_65 : sw27_X5_dredge se = g255_65 at hw
                replace eg255_65 : gv255_65_L_acts se = g255_65 := (by rw [← eg255_65]; rfl)
                generalize eg255_66 : sw28_X5_dredge f to (nI (1 + y % m5 y)) = g255_66 at hw
                replace eg255_66 : gv255_66_L_acts f to y = g255_66 := (by rw [← eg255_66]; rfl)
                generalize eg255_67 : sw29_X5_dredge re = g255_67 at hw
                replace eg255_67 : gv255_67_L_acts re = g255_67 := (by rw [← eg255_67]; rfl)
                subst hw
                have hP : va_P D vwCl [oX x0 h o t1 x1 y1 z1, oH x1 x2 g255_55, aL cL x2 (gS s0 s1 s2 s3), oL s0 s01 s02 s03 (g255_56 0), aI cI s01 3 (g255_57 0), aI cI s02 7 (g255_58 0), aI cI s03 60 (g255_59 0), oL s1 s11 s12 s13 (g255_56 1), aI cI s11 3 (g255_57 1), aI cI s12 7 (g255_58 1), aI cI s13 60 (g255_59 1), oL s2 s21 s22 s23 (g255_56 2), aI cI s21 3 (g255_57 2), aI cI s22 7 (g255_58 2), aI cI s23 60 (g255_59 2), oL s3 s31 s32 s33 (g255_56 3), aI cI s31 3 (g255_57 3), aI cI s32 7 (g255_58 3), aI cI s33 60 (g255_59 3), oL h h1 h2 h3 g255_60, aI cI h1 3 g255_61, aI cI h2 7 g255_62, aI cI h3 60 g255_63, oP z1 pf, oT y1 y2 tf, aC cC y2 60 ch, oL o o1 o2 o3 g255_64, aI cI o1 3 g255_65, aI cI o2 7 g255_66, aI cI o3 60 g255_67, oK t1 kf, aI cI ag 18 ug, aI cI ar 60 ur, aI cI ad 10 ud] H := hP
                have hD : va_D A [oX x0 h o t1 x1 y1 z1, oH x1 x2 g255_55, aL cL x2 (gS s0 s1 s2 s3), oL s0 s01 s02 s03 (g255_56 0), aI cI s01 3 (g255_57 0), aI cI s02 7 (g255_58 0), aI cI s03 60 (g255_59 0), oL s1 s11 s12 s13 (g255_56 1), aI cI s11 3 (g255_57 1), aI cI s12 7 (g255_58 1), aI cI s13 60 (g255_59 1), oL s2 s21 s22 s23 (g255_56 2), aI cI s21 3 (g255_57 2), aI cI s22 7 (g255_58 2), aI cI s23 60 (g255_59 2), oL s3 s31 s32 s33 (g255_56 3), aI cI s31 3 (g255_57 3), aI cI s32 7 (g255_58 3), aI cI s33 60 (g255_59 3), oL h h1 h2 h3 g255_60, aI cI h1 3 g255_61, aI cI h2 7 g255_62, aI cI h3 60 g255_63, oP z1 pf, oT y1 y2 tf, aC cC y2 60 ch, oL o o1 o2 o3 g255_64, aI cI o1 3 g255_65, aI cI o2 7 g255_66, aI cI o3 60 g255_67, oK t1 kf, aI cI ag 18 ug, aI cI ar 60 ur, aI cI ad 10 ud] := hD
                refine lv_ldc (v := (-1000000002)) hx hb hown (hG _ k_319) dL_acts_258 ?_
                refine lv_icmp_ne (tgt := 267) hx hb dL_acts_260 (by decide) (fun h0 => absurd h0 (not_not_intro (s_dredge_no hZ (by omega) (by have := m5_b y; have := Nat.mod_lt y (m5_b y).1; omega) c_249).1)) (fun _ => ?_)
                refine lv_iconst (v := 1) hx hb dL_acts_263 (by decide) ?_
                refine lv_goto (tgt := 268) hx hb dL_acts_264 (by decide) ?_
                revert hP; revert hD; revert hS; revert hl
                subst eg255_67
                subst eg255_66
                subst eg255_65
                subst eg255_64
                subst eg255_63
                subst eg255_62
                subst eg255_61
                subst eg255_60
                subst eg255_59
                subst eg255_58
                subst eg255_57
                subst eg255_56
                subst eg255_55
                intro hl hS hD hP
                refine W.widen (k := 1) (n := 7) (Nat.zero_le _) (Nat.zero_le _) ?_
                exact ag_iretn [x0, x1, x2, s0, s01, s02, s03, s1, s11, s12, s13, s2, s21, s22, s23, s3, s31, s32, s33, h, h1, h2, h3, z1, y1, y2, o, o1, o2, o3, t1, ag, ar, ad] hx hb hr (by decide) hlocks hP hS rfl rfl ⟨rfl, (gv255_55_L_acts hf f y), (gv255_60_L_acts f y), (gv255_61_L_acts f se y), (gv255_62_L_acts f to y), (gv255_63_L_acts f re y), pf, tf, ch, (gv255_64_L_acts f y), (gv255_65_L_acts se), (gv255_66_L_acts f to y), (gv255_67_L_acts re), kf, ug, ur, ud, (gv255_56_L_acts hf f sf y), (gv255_57_L_acts hf f se sse y), (gv255_58_L_acts hf f to sto y), (gv255_59_L_acts hf f re sre y), rfl, (s_dredge_no hZ (by omega) (by have := m5_b y; have := Nat.mod_lt y (m5_b y).1; omega) c_249).2⟩ dL_acts_268
            refine lv_if_ne (tgt := 237) hx hb dL_acts_228 (by decide) (fun c_228 => ?_) (fun c_228 => ?_)
            · refine lv_sipush (v := 300) hx hb dL_acts_237 (by decide) ?_
              simp only [j240_0_L_acts, if_neg c_228] at J240
              exact J240 _ (lv_sub hl [2, 3, 4, 5, 6, 1, 0] rfl)
            · refine lv_sipush (v := 20000) hx hb dL_acts_231 (by decide) ?_
              refine lv_goto (tgt := 240) hx hb dL_acts_234 (by decide) ?_
              simp only [j240_0_L_acts, if_pos c_228] at J240
              exact J240 _ (lv_sub hl [2, 3, 4, 5, 6, 1, 0] rfl)
        · refine lv_aload_n hx hb dL_acts_145 rfl (lv_at hl 3 rfl) ?_
          refine lv_bipush (v := 6) hx hb dL_acts_146 (by decide) ?_
          refine lv_iload hx hb dL_acts_148 (lv_at hl 1 rfl) ?_
          refine lv_sipush (v := 144) hx hb dL_acts_150 (by decide) ?_
          refine lv_irem hx hb dL_acts_153 (by decide) ?_
          refine ag_tope (nI (y % 144)) (qrem 144 rfl (by decide) (by decide) (by omega)) ?_
          refine ag_ist (k := 6) hx hb hK hP hD hS 31 rfl rfl (Nat.le_of_ble_eq_true rfl) (Nat.le_of_ble_eq_true rfl) dL_acts_154 (fun H locs hP hD hS => ?_)
          have hP : va_P D vwCl [oX x0 h o t1 x1 y1 z1, oH x1 x2 hf, aL cL x2 (gS s0 s1 s2 s3), oL s0 s01 s02 s03 (sf 0), aI cI s01 3 (sse 0), aI cI s02 7 (sto 0), aI cI s03 60 (sre 0), oL s1 s11 s12 s13 (sf 1), aI cI s11 3 (sse 1), aI cI s12 7 (sto 1), aI cI s13 60 (sre 1), oL s2 s21 s22 s23 (sf 2), aI cI s21 3 (sse 2), aI cI s22 7 (sto 2), aI cI s23 60 (sre 2), oL s3 s31 s32 s33 (sf 3), aI cI s31 3 (sse 3), aI cI s32 7 (sto 3), aI cI s33 60 (sre 3), oL h h1 h2 h3 f, aI cI h1 3 se, aI cI h2 7 to, aI cI h3 60 re, oP z1 pf, oT y1 y2 tf, aC cC y2 60 ch, oL o o1 o2 o3 of, aI cI o1 3 ose, aI cI o2 7 oto, aI cI o3 60 ore, oK t1 kf, aI cI ag 18 (upd ug 6 (nI (y % 144))), aI cI ar 60 ur, aI cI ad 10 ud] H := hP
          have hD : va_D A [oX x0 h o t1 x1 y1 z1, oH x1 x2 hf, aL cL x2 (gS s0 s1 s2 s3), oL s0 s01 s02 s03 (sf 0), aI cI s01 3 (sse 0), aI cI s02 7 (sto 0), aI cI s03 60 (sre 0), oL s1 s11 s12 s13 (sf 1), aI cI s11 3 (sse 1), aI cI s12 7 (sto 1), aI cI s13 60 (sre 1), oL s2 s21 s22 s23 (sf 2), aI cI s21 3 (sse 2), aI cI s22 7 (sto 2), aI cI s23 60 (sre 2), oL s3 s31 s32 s33 (sf 3), aI cI s31 3 (sse 3), aI cI s32 7 (sto 3), aI cI s33 60 (sre 3), oL h h1 h2 h3 f, aI cI h1 3 se, aI cI h2 7 to, aI cI h3 60 re, oP z1 pf, oT y1 y2 tf, aC cC y2 60 ch, oL o o1 o2 o3 of, aI cI o1 3 ose, aI cI o2 7 oto, aI cI o3 60 ore, oK t1 kf, aI cI ag 18 (upd ug 6 (nI (y % 144))), aI cI ar 60 ur, aI cI ad 10 ud] := hD
          refine lv_aload_n hx hb dL_acts_155 rfl (lv_at hl 3 rfl) ?_
          refine lv_bipush (v := 7) hx hb dL_acts_156 (by decide) ?_
          refine lv_iload hx hb dL_acts_158 (lv_at hl 1 rfl) ?_
          refine lv_sipush (v := 144) hx hb dL_acts_160 (by decide) ?_
          refine lv_idiv hx hb dL_acts_163 (by decide) ?_
          refine ag_tope (nI (y / 144)) (qdiv 144 rfl (by decide) (by decide) (by omega)) ?_
          refine lv_sipush (v := 145) hx hb dL_acts_164 (by decide) ?_
          refine lv_irem hx hb dL_acts_167 (by decide) ?_
          refine ag_tope (nI (y / 144 % 145)) (qrem 145 rfl (by decide) (by decide) (by omega)) ?_
          refine ag_ist (k := 7) hx hb hK hP hD hS 31 rfl rfl (Nat.le_of_ble_eq_true rfl) (Nat.le_of_ble_eq_true rfl) dL_acts_168 (fun H locs hP hD hS => ?_)
          have hP : va_P D vwCl [oX x0 h o t1 x1 y1 z1, oH x1 x2 hf, aL cL x2 (gS s0 s1 s2 s3), oL s0 s01 s02 s03 (sf 0), aI cI s01 3 (sse 0), aI cI s02 7 (sto 0), aI cI s03 60 (sre 0), oL s1 s11 s12 s13 (sf 1), aI cI s11 3 (sse 1), aI cI s12 7 (sto 1), aI cI s13 60 (sre 1), oL s2 s21 s22 s23 (sf 2), aI cI s21 3 (sse 2), aI cI s22 7 (sto 2), aI cI s23 60 (sre 2), oL s3 s31 s32 s33 (sf 3), aI cI s31 3 (sse 3), aI cI s32 7 (sto 3), aI cI s33 60 (sre 3), oL h h1 h2 h3 f, aI cI h1 3 se, aI cI h2 7 to, aI cI h3 60 re, oP z1 pf, oT y1 y2 tf, aC cC y2 60 ch, oL o o1 o2 o3 of, aI cI o1 3 ose, aI cI o2 7 oto, aI cI o3 60 ore, oK t1 kf, aI cI ag 18 (upd (upd ug 6 (nI (y % 144))) 7 (nI (y / 144 % 145))), aI cI ar 60 ur, aI cI ad 10 ud] H := hP
          have hD : va_D A [oX x0 h o t1 x1 y1 z1, oH x1 x2 hf, aL cL x2 (gS s0 s1 s2 s3), oL s0 s01 s02 s03 (sf 0), aI cI s01 3 (sse 0), aI cI s02 7 (sto 0), aI cI s03 60 (sre 0), oL s1 s11 s12 s13 (sf 1), aI cI s11 3 (sse 1), aI cI s12 7 (sto 1), aI cI s13 60 (sre 1), oL s2 s21 s22 s23 (sf 2), aI cI s21 3 (sse 2), aI cI s22 7 (sto 2), aI cI s23 60 (sre 2), oL s3 s31 s32 s33 (sf 3), aI cI s31 3 (sse 3), aI cI s32 7 (sto 3), aI cI s33 60 (sre 3), oL h h1 h2 h3 f, aI cI h1 3 se, aI cI h2 7 to, aI cI h3 60 re, oP z1 pf, oT y1 y2 tf, aC cC y2 60 ch, oL o o1 o2 o3 of, aI cI o1 3 ose, aI cI o2 7 oto, aI cI o3 60 ore, oK t1 kf, aI cI ag 18 (upd (upd ug 6 (nI (y % 144))) 7 (nI (y / 144 % 145))), aI cI ar 60 ur, aI cI ad 10 ud] := hD
          refine lv_aload_n hx hb dL_acts_169 rfl (lv_at hl 2 rfl) ?_
          refine lv_aload_n hx hb dL_acts_170 rfl (lv_at hl 3 rfl) ?_
          refine lv_bipush (v := 6) hx hb dL_acts_171 (by decide) ?_
          refine ag_ild (k := 6) (v := nI (y % 144)) hx hb hK hP 31 rfl rfl (Nat.le_of_ble_eq_true rfl) (Nat.le_of_ble_eq_true rfl) rfl dL_acts_173 ?_
          refine lv_aload_n hx hb dL_acts_174 rfl (lv_at hl 3 rfl) ?_
          refine lv_bipush (v := 7) hx hb dL_acts_175 (by decide) ?_
          refine ag_ild (k := 7) (v := nI (y / 144 % 145)) hx hb hK hP 31 rfl rfl (Nat.le_of_ble_eq_true rfl) (Nat.le_of_ble_eq_true rfl) rfl dL_acts_177 ?_
          refine ag_callVi (As := [.int (nI (y % 144)), .int (nI (y / 144 % 145))]) (rest := []) hx hb hml hown hG hK hN hA hP hD hS hl (ct_X5_birds l D cI cC cL x0 h o t1 x1 y1 z1 x2 s0 s01 s02 s03 s1 s11 s12 s13 s2 s21 s22 s23 s3 s31 s32 s33 h1 h2 h3 y2 o1 o2 o3 hf f se to re pf tf ch of ose oto ore kf (nI (y % 144)) (nI (y / 144 % 145)) sf sse sto sre) fX5_birds k_302 (ag_cut_1 [] [aI cI ag 18 (upd (upd ug 6 (nI (y % 144))) 7 (nI (y / 144 % 145))), aI cI ar 60 ur, aI cI ad 10 ud] rfl) (q0 := 0) rfl rfl rfl rfl (Nat.le_of_ble_eq_true rfl) ⟨Nat.le_of_ble_eq_true rfl, Nat.le_of_ble_eq_true rfl⟩ ⟨Nat.zero_le _, Nat.zero_le _⟩ dL_acts_178 (fun r w1 H locs hw hP hD hS => ?_)
          obtain ⟨rfl, hw⟩ := hw
          generalize eg178_68 : sw1_X5_birds hf (nI (y % 144)) (nI (y / 144 % 145)) = g178_68 at hw
          replace eg178_68 : gv178_68_L_acts hf y = g178_68 := (by rw [← eg178_68]; rfl)
          generalize eg178_69 : fw_sf_X5_birds hf f (nI (y % 144)) (nI (y / 144 % 145)) sf = g178_69 at hw
          replace eg178_69 : gv178_69_L_acts hf f sf y = g178_69 := (by rw [← eg178_69]; rfl)
          generalize eg178_70 : fw_sse_X5_birds hf se (nI (y % 144)) (nI (y / 144 % 145)) sse = g178_70 at hw
          replace eg178_70 : gv178_70_L_acts hf se sse y = g178_70 := (by rw [← eg178_70]; rfl)
          generalize eg178_71 : fw_sto_X5_birds hf to (nI (y % 144)) (nI (y / 144 % 145)) sto = g178_71 at hw
          replace eg178_71 : gv178_71_L_acts hf to sto y = g178_71 := (by rw [← eg178_71]; rfl)
          generalize eg178_72 : fw_sre_X5_birds hf re (nI (y % 144)) (nI (y / 144 % 145)) sre = g178_72 at hw
          replace eg178_72 : gv178_72_L_acts hf re sre y = g178_72 := (by rw [← eg178_72]; rfl)
          generalize eg178_73 : sw19_X5_birds f (nI (y % 144)) (nI (y / 144 % 145)) = g178_73 at hw
          replace eg178_73 : gv178_73_L_acts f y = g178_73 := (by rw [← eg178_73]; rfl)
          generalize eg178_74 : sw20_X5_birds se (nI (y % 144)) (nI (y / 144 % 145)) = g178_74 at hw
          replace eg178_74 : gv178_74_L_acts se y = g178_74 := (by rw [← eg178_74]; rfl)
          generalize eg178_75 : sw21_X5_birds to (nI (y % 144)) (nI (y / 144 % 145)) = g178_75 at hw
          replace eg178_75 : gv178_75_L_acts to y = g178_75 := (by rw [← eg178_75]; rfl)
          generalize eg178_76 : sw22_X5_birds re (nI (y % 144)) (nI (y / 144 % 145)) = g178_76 at hw
          replace eg178_76 : gv178_76_L_acts re y = g178_76 := (by rw [← eg178_76]; rfl)
          generalize eg178_77 : sw26_X5_birds f (nI (y % 144)) (nI (y / 144 % 145)) = g178_77 at hw
          replace eg178_77 : gv178_77_L_acts f y = g178_77 := (by rw [← eg178_77]; rfl)
          generalize eg178_78 : sw27_X5_birds se = g178_78 at hw
          replace eg178_78 : gv178_78_L_acts se = g178_78 := (by rw [← eg178_78]; rfl)
          generalize eg178_79 : sw28_X5_birds to = g178_79 at hw
          replace eg178_79 : gv178_79_L_acts to = g178_79 := (by rw [← eg178_79]; rfl)
          generalize eg178_80 : sw29_X5_birds re = g178_80 at hw
          replace eg178_80 : gv178_80_L_acts re = g178_80 := (by rw [← eg178_80]; rfl)
          subst hw
          have hP : va_P D vwCl [oX x0 h o t1 x1 y1 z1, oH x1 x2 g178_68, aL cL x2 (gS s0 s1 s2 s3), oL s0 s01 s02 s03 (g178_69 0), aI cI s01 3 (g178_70 0), aI cI s02 7 (g178_71 0), aI cI s03 60 (g178_72 0), oL s1 s11 s12 s13 (g178_69 1), aI cI s11 3 (g178_70 1), aI cI s12 7 (g178_71 1), aI cI s13 60 (g178_72 1), oL s2 s21 s22 s23 (g178_69 2), aI cI s21 3 (g178_70 2), aI cI s22 7 (g178_71 2), aI cI s23 60 (g178_72 2), oL s3 s31 s32 s33 (g178_69 3), aI cI s31 3 (g178_70 3), aI cI s32 7 (g178_71 3), aI cI s33 60 (g178_72 3), oL h h1 h2 h3 g178_73, aI cI h1 3 g178_74, aI cI h2 7 g178_75, aI cI h3 60 g178_76, oP z1 pf, oT y1 y2 tf, aC cC y2 60 ch, oL o o1 o2 o3 g178_77, aI cI o1 3 g178_78, aI cI o2 7 g178_79, aI cI o3 60 g178_80, oK t1 kf, aI cI ag 18 (upd (upd ug 6 (nI (y % 144))) 7 (nI (y / 144 % 145))), aI cI ar 60 ur, aI cI ad 10 ud] H := hP
          have hD : va_D A [oX x0 h o t1 x1 y1 z1, oH x1 x2 g178_68, aL cL x2 (gS s0 s1 s2 s3), oL s0 s01 s02 s03 (g178_69 0), aI cI s01 3 (g178_70 0), aI cI s02 7 (g178_71 0), aI cI s03 60 (g178_72 0), oL s1 s11 s12 s13 (g178_69 1), aI cI s11 3 (g178_70 1), aI cI s12 7 (g178_71 1), aI cI s13 60 (g178_72 1), oL s2 s21 s22 s23 (g178_69 2), aI cI s21 3 (g178_70 2), aI cI s22 7 (g178_71 2), aI cI s23 60 (g178_72 2), oL s3 s31 s32 s33 (g178_69 3), aI cI s31 3 (g178_70 3), aI cI s32 7 (g178_71 3), aI cI s33 60 (g178_72 3), oL h h1 h2 h3 g178_73, aI cI h1 3 g178_74, aI cI h2 7 g178_75, aI cI h3 60 g178_76, oP z1 pf, oT y1 y2 tf, aC cC y2 60 ch, oL o o1 o2 o3 g178_77, aI cI o1 3 g178_78, aI cI o2 7 g178_79, aI cI o3 60 g178_80, oK t1 kf, aI cI ag 18 (upd (upd ug 6 (nI (y % 144))) 7 (nI (y / 144 % 145))), aI cI ar 60 ur, aI cI ad 10 ud] := hD
          refine lv_aload_n hx hb dL_acts_181 rfl (lv_at hl 3 rfl) ?_
          refine lv_bipush (v := 6) hx hb dL_acts_182 (by decide) ?_
          refine ag_ild (k := 6) (v := nI (y % 144)) hx hb hK hP 31 rfl rfl (Nat.le_of_ble_eq_true rfl) (Nat.le_of_ble_eq_true rfl) rfl dL_acts_184 ?_
          refine lv_aload_n hx hb dL_acts_185 rfl (lv_at hl 3 rfl) ?_
          refine lv_bipush (v := 7) hx hb dL_acts_186 (by decide) ?_
          refine ag_ild (k := 7) (v := nI (y / 144 % 145)) hx hb hK hP 31 rfl rfl (Nat.le_of_ble_eq_true rfl) (Nat.le_of_ble_eq_true rfl) rfl dL_acts_188 ?_
          have J205 : ∀ (ls : Array Slot), lv_has ls 9 [(0, .ref x0), (1, .ref ag), (2, .ref ar), (3, .ref ad), (4, .int p1), (5, .int (nI y)), (6, .int (sr_L_low p1 32))] → W p l e (ag_rn 6 131 1 7) s m ([.ref x0, .ref ag, .ref ar, .ref ad, .int p1] : List Value).toArray below meth c H locs 0 0 (MQ below (va_Qi (po_L_acts cI cC cL x0 ag ar ad h o t1 x1 y1 z1 x2 s0 s01 s02 s03 s1 s11 s12 s13 s2 s21 s22 s23 s3 s31 s32 s33 h1 h2 h3 y2 o1 o2 o3 hf f se to re pf tf ch of ose oto ore kf ug ur ud p1 sf sse sto sre hZ) (ag_Out D [oX x0 h o t1 x1 y1 z1, oH x1 x2 hf, aL cL x2 (gS s0 s1 s2 s3), oL s0 s01 s02 s03 (sf 0), aI cI s01 3 (sse 0), aI cI s02 7 (sto 0), aI cI s03 60 (sre 0), oL s1 s11 s12 s13 (sf 1), aI cI s11 3 (sse 1), aI cI s12 7 (sto 1), aI cI s13 60 (sre 1), oL s2 s21 s22 s23 (sf 2), aI cI s21 3 (sse 2), aI cI s22 7 (sto 2), aI cI s23 60 (sre 2), oL s3 s31 s32 s33 (sf 3), aI cI s31 3 (sse 3), aI cI s32 7 (sto 3), aI cI s33 60 (sre 3), oL h h1 h2 h3 f, aI cI h1 3 se, aI cI h2 7 to, aI cI h3 60 re, oP z1 pf, oT y1 y2 tf, aC cC y2 60 ch, oL o o1 o2 o3 of, aI cI o1 3 ose, aI cI o2 7 oto, aI cI o3 60 ore, oK t1 kf, aI cI ag 18 ug, aI cI ar 60 ur, aI cI ad 10 ud]) A) ([.ref x0, .ref ag, .ref ar, .ref ad, .int p1] : List Value).toArray s 1 7 A) (F0 m 205 ls [.int (j205_0_L_acts y), .int (sr_X5_birds (nI (y % 144)) (nI (y / 144 % 145)))]) := by
            intro ls hl
            refine lv_icmp_ne (tgt := 212) hx hb dL_acts_205 (by decide) (fun h0 => absurd h0 (not_not_intro (s_birds hZ (Nat.mod_lt y (by decide)) (by have := Nat.mod_lt (y / 144) (show 0 < 145 by decide); omega)).1)) (fun _ => ?_)
            refine lv_iconst (v := 1) hx hb dL_acts_208 (by decide) ?_
            refine lv_goto (tgt := 213) hx hb dL_acts_209 (by decide) ?_
            revert hP; revert hD; revert hS; revert hl
            subst eg178_80
            subst eg178_79
            subst eg178_78
            subst eg178_77
            subst eg178_76
            subst eg178_75
            subst eg178_74
            subst eg178_73
            subst eg178_72
            subst eg178_71
            subst eg178_70
            subst eg178_69
            subst eg178_68
            intro hl hS hD hP
            refine W.widen (k := 1) (n := 7) (Nat.zero_le _) (Nat.zero_le _) ?_
            exact ag_iretn [x0, x1, x2, s0, s01, s02, s03, s1, s11, s12, s13, s2, s21, s22, s23, s3, s31, s32, s33, h, h1, h2, h3, z1, y1, y2, o, o1, o2, o3, t1, ag, ar, ad] hx hb hr (by decide) hlocks hP hS rfl rfl ⟨rfl, (gv178_68_L_acts hf y), (gv178_73_L_acts f y), (gv178_74_L_acts se y), (gv178_75_L_acts to y), (gv178_76_L_acts re y), pf, tf, ch, (gv178_77_L_acts f y), (gv178_78_L_acts se), (gv178_79_L_acts to), (gv178_80_L_acts re), kf, upd (upd ug 6 (nI (y % 144))) 7 (nI (y / 144 % 145)), ur, ud, (gv178_69_L_acts hf f sf y), (gv178_70_L_acts hf se sse y), (gv178_71_L_acts hf to sto y), (gv178_72_L_acts hf re sre y), rfl, (s_birds hZ (Nat.mod_lt y (by decide)) (by have := Nat.mod_lt (y / 144) (show 0 < 145 by decide); omega)).2⟩ dL_acts_213
          refine lv_icmp_ge (tgt := 204) hx hb dL_acts_189 (by decide) (fun c_189 => ?_) (fun c_189 => ?_)
          · refine lv_iconst (v := 0) hx hb dL_acts_204 (by decide) ?_
            revert hP; revert hD; revert hS; revert hl
            subst eg178_80
            subst eg178_79
            subst eg178_78
            subst eg178_77
            subst eg178_76
            subst eg178_75
            subst eg178_74
            subst eg178_73
            subst eg178_72
            subst eg178_71
            subst eg178_70
            subst eg178_69
            subst eg178_68
            intro hl hS hD hP
            simp only [j205_0_L_acts, if_pos c_189] at J205
            exact J205 _ (lv_sub hl [2, 3, 4, 5, 6, 1, 0] rfl)
          · refine lv_aload_n hx hb dL_acts_192 rfl (lv_at hl 3 rfl) ?_
            refine lv_bipush (v := 7) hx hb dL_acts_193 (by decide) ?_
            refine ag_ild (k := 7) (v := nI (y / 144 % 145)) hx hb hK hP 31 rfl rfl (Nat.le_of_ble_eq_true rfl) (Nat.le_of_ble_eq_true rfl) rfl dL_acts_195 ?_
            refine lv_aload_n hx hb dL_acts_196 rfl (lv_at hl 3 rfl) ?_
            refine lv_bipush (v := 6) hx hb dL_acts_197 (by decide) ?_
            refine ag_ild (k := 6) (v := nI (y % 144)) hx hb hK hP 31 rfl rfl (Nat.le_of_ble_eq_true rfl) (Nat.le_of_ble_eq_true rfl) rfl dL_acts_199 ?_
            refine lv_isub hx hb dL_acts_200 ?_
            refine lv_goto (tgt := 205) hx hb dL_acts_201 (by decide) ?_
            revert hP; revert hD; revert hS; revert hl
            subst eg178_80
            subst eg178_79
            subst eg178_78
            subst eg178_77
            subst eg178_76
            subst eg178_75
            subst eg178_74
            subst eg178_73
            subst eg178_72
            subst eg178_71
            subst eg178_70
            subst eg178_69
            subst eg178_68
            intro hl hS hD hP
            simp only [j205_0_L_acts, if_neg c_189] at J205
            exact J205 _ (lv_sub hl [2, 3, 4, 5, 6, 1, 0] rfl)
      · refine lv_aload_n hx hb dL_acts_102 rfl (lv_at hl 3 rfl) ?_
        refine lv_iconst (v := 5) hx hb dL_acts_103 (by decide) ?_
        refine ag_ild (k := 5) (v := ug 5) hx hb hK hP 31 rfl rfl (Nat.le_of_ble_eq_true rfl) (Nat.le_of_ble_eq_true rfl) rfl dL_acts_104 ?_
        refine lv_istore (lv' := [(7, .int (ug 5)), (6, .int (sr_L_low p1 32)), (5, .int (nI y)), (0, .ref x0), (1, .ref ag), (2, .ref ar), (3, .ref ad), (4, .int p1)]) hx hb dL_acts_105 hl (by decide) rfl (fun ls hl => ?_)
        refine lv_aload_n hx hb dL_acts_107 rfl (lv_at hl 4 rfl) ?_
        refine lv_iconst (v := 5) hx hb dL_acts_108 (by decide) ?_
        refine lv_iload hx hb dL_acts_109 (lv_at hl 2 rfl) ?_
        refine lv_sipush (v := 1001) hx hb dL_acts_111 (by decide) ?_
        refine lv_irem hx hb dL_acts_114 (by decide) ?_
        refine ag_tope (nI (y % 1001)) (qrem 1001 rfl (by decide) (by decide) (by omega)) ?_
        refine lv_sipush (v := 500) hx hb dL_acts_115 (by decide) ?_
        refine lv_isub hx hb dL_acts_118 ?_
        refine ag_ist (k := 5) hx hb hK hP hD hS 31 rfl rfl (Nat.le_of_ble_eq_true rfl) (Nat.le_of_ble_eq_true rfl) dL_acts_119 (fun H locs hP hD hS => ?_)
        have hP : va_P D vwCl [oX x0 h o t1 x1 y1 z1, oH x1 x2 hf, aL cL x2 (gS s0 s1 s2 s3), oL s0 s01 s02 s03 (sf 0), aI cI s01 3 (sse 0), aI cI s02 7 (sto 0), aI cI s03 60 (sre 0), oL s1 s11 s12 s13 (sf 1), aI cI s11 3 (sse 1), aI cI s12 7 (sto 1), aI cI s13 60 (sre 1), oL s2 s21 s22 s23 (sf 2), aI cI s21 3 (sse 2), aI cI s22 7 (sto 2), aI cI s23 60 (sre 2), oL s3 s31 s32 s33 (sf 3), aI cI s31 3 (sse 3), aI cI s32 7 (sto 3), aI cI s33 60 (sre 3), oL h h1 h2 h3 f, aI cI h1 3 se, aI cI h2 7 to, aI cI h3 60 re, oP z1 pf, oT y1 y2 tf, aC cC y2 60 ch, oL o o1 o2 o3 of, aI cI o1 3 ose, aI cI o2 7 oto, aI cI o3 60 ore, oK t1 kf, aI cI ag 18 (upd ug 5 ((nI (y % 1001)) - 500)), aI cI ar 60 ur, aI cI ad 10 ud] H := hP
        have hD : va_D A [oX x0 h o t1 x1 y1 z1, oH x1 x2 hf, aL cL x2 (gS s0 s1 s2 s3), oL s0 s01 s02 s03 (sf 0), aI cI s01 3 (sse 0), aI cI s02 7 (sto 0), aI cI s03 60 (sre 0), oL s1 s11 s12 s13 (sf 1), aI cI s11 3 (sse 1), aI cI s12 7 (sto 1), aI cI s13 60 (sre 1), oL s2 s21 s22 s23 (sf 2), aI cI s21 3 (sse 2), aI cI s22 7 (sto 2), aI cI s23 60 (sre 2), oL s3 s31 s32 s33 (sf 3), aI cI s31 3 (sse 3), aI cI s32 7 (sto 3), aI cI s33 60 (sre 3), oL h h1 h2 h3 f, aI cI h1 3 se, aI cI h2 7 to, aI cI h3 60 re, oP z1 pf, oT y1 y2 tf, aC cC y2 60 ch, oL o o1 o2 o3 of, aI cI o1 3 ose, aI cI o2 7 oto, aI cI o3 60 ore, oK t1 kf, aI cI ag 18 (upd ug 5 ((nI (y % 1001)) - 500)), aI cI ar 60 ur, aI cI ad 10 ud] := hD
        refine lv_aload_n hx hb dL_acts_120 rfl (lv_at hl 3 rfl) ?_
        refine lv_aload_n hx hb dL_acts_121 rfl (lv_at hl 4 rfl) ?_
        refine lv_iconst (v := 5) hx hb dL_acts_122 (by decide) ?_
        refine ag_ild (k := 5) (v := (nI (y % 1001)) - 500) hx hb hK hP 31 rfl rfl (Nat.le_of_ble_eq_true rfl) (Nat.le_of_ble_eq_true rfl) rfl dL_acts_123 ?_
        refine ag_callVi (As := [.int ((nI (y % 1001)) - 500)]) (rest := []) hx hb hml hown hG hK hN hA hP hD hS hl (ct_X5_pump l D cI cC cL x0 h o t1 x1 y1 z1 x2 s0 s01 s02 s03 s1 s11 s12 s13 s2 s21 s22 s23 s3 s31 s32 s33 h1 h2 h3 y2 o1 o2 o3 hf f se to re pf tf ch of ose oto ore kf ((nI (y % 1001)) - 500) sf sse sto sre) fX5_pump k_294 (ag_cut_1 [] [aI cI ag 18 (upd ug 5 ((nI (y % 1001)) - 500)), aI cI ar 60 ur, aI cI ad 10 ud] rfl) (q0 := 0) rfl rfl rfl rfl (Nat.le_of_ble_eq_true rfl) ⟨Nat.le_of_ble_eq_true rfl, Nat.le_of_ble_eq_true rfl⟩ ⟨Nat.zero_le _, Nat.zero_le _⟩ dL_acts_124 (fun r w1 H locs hw hP hD hS => ?_)
        obtain ⟨rfl, hw⟩ := hw
        generalize eg124_81 : sw1_X5_pump hf f ((nI (y % 1001)) - 500) = g124_81 at hw
        replace eg124_81 : gv124_81_L_acts hf f y = g124_81 := (by rw [← eg124_81]; rfl)
        generalize eg124_82 : fw_sf_X5_pump hf f ((nI (y % 1001)) - 500) sf = g124_82 at hw
        replace eg124_82 : gv124_82_L_acts hf f sf y = g124_82 := (by rw [← eg124_82]; rfl)
        generalize eg124_83 : fw_sse_X5_pump hf f se ((nI (y % 1001)) - 500) sse = g124_83 at hw
        replace eg124_83 : gv124_83_L_acts hf f se sse y = g124_83 := (by rw [← eg124_83]; rfl)
        generalize eg124_84 : fw_sto_X5_pump hf f to ((nI (y % 1001)) - 500) sto = g124_84 at hw
        replace eg124_84 : gv124_84_L_acts hf f to sto y = g124_84 := (by rw [← eg124_84]; rfl)
        generalize eg124_85 : fw_sre_X5_pump hf f re ((nI (y % 1001)) - 500) sre = g124_85 at hw
        replace eg124_85 : gv124_85_L_acts hf f re sre y = g124_85 := (by rw [← eg124_85]; rfl)
        generalize eg124_86 : sw19_X5_pump f ((nI (y % 1001)) - 500) = g124_86 at hw
        replace eg124_86 : gv124_86_L_acts f y = g124_86 := (by rw [← eg124_86]; rfl)
        generalize eg124_87 : sw20_X5_pump f se ((nI (y % 1001)) - 500) = g124_87 at hw
        replace eg124_87 : gv124_87_L_acts f se y = g124_87 := (by rw [← eg124_87]; rfl)
        generalize eg124_88 : sw21_X5_pump f to ((nI (y % 1001)) - 500) = g124_88 at hw
        replace eg124_88 : gv124_88_L_acts f to y = g124_88 := (by rw [← eg124_88]; rfl)
        generalize eg124_89 : sw22_X5_pump f re ((nI (y % 1001)) - 500) = g124_89 at hw
        replace eg124_89 : gv124_89_L_acts f re y = g124_89 := (by rw [← eg124_89]; rfl)
        generalize eg124_90 : sw26_X5_pump f ((nI (y % 1001)) - 500) = g124_90 at hw
        replace eg124_90 : gv124_90_L_acts f y = g124_90 := (by rw [← eg124_90]; rfl)
        generalize eg124_91 : sw27_X5_pump se = g124_91 at hw
        replace eg124_91 : gv124_91_L_acts se = g124_91 := (by rw [← eg124_91]; rfl)
        generalize eg124_92 : sw28_X5_pump to = g124_92 at hw
        replace eg124_92 : gv124_92_L_acts to = g124_92 := (by rw [← eg124_92]; rfl)
        generalize eg124_93 : sw29_X5_pump re = g124_93 at hw
        replace eg124_93 : gv124_93_L_acts re = g124_93 := (by rw [← eg124_93]; rfl)
        subst hw
        have hP : va_P D vwCl [oX x0 h o t1 x1 y1 z1, oH x1 x2 g124_81, aL cL x2 (gS s0 s1 s2 s3), oL s0 s01 s02 s03 (g124_82 0), aI cI s01 3 (g124_83 0), aI cI s02 7 (g124_84 0), aI cI s03 60 (g124_85 0), oL s1 s11 s12 s13 (g124_82 1), aI cI s11 3 (g124_83 1), aI cI s12 7 (g124_84 1), aI cI s13 60 (g124_85 1), oL s2 s21 s22 s23 (g124_82 2), aI cI s21 3 (g124_83 2), aI cI s22 7 (g124_84 2), aI cI s23 60 (g124_85 2), oL s3 s31 s32 s33 (g124_82 3), aI cI s31 3 (g124_83 3), aI cI s32 7 (g124_84 3), aI cI s33 60 (g124_85 3), oL h h1 h2 h3 g124_86, aI cI h1 3 g124_87, aI cI h2 7 g124_88, aI cI h3 60 g124_89, oP z1 pf, oT y1 y2 tf, aC cC y2 60 ch, oL o o1 o2 o3 g124_90, aI cI o1 3 g124_91, aI cI o2 7 g124_92, aI cI o3 60 g124_93, oK t1 kf, aI cI ag 18 (upd ug 5 ((nI (y % 1001)) - 500)), aI cI ar 60 ur, aI cI ad 10 ud] H := hP
        have hD : va_D A [oX x0 h o t1 x1 y1 z1, oH x1 x2 g124_81, aL cL x2 (gS s0 s1 s2 s3), oL s0 s01 s02 s03 (g124_82 0), aI cI s01 3 (g124_83 0), aI cI s02 7 (g124_84 0), aI cI s03 60 (g124_85 0), oL s1 s11 s12 s13 (g124_82 1), aI cI s11 3 (g124_83 1), aI cI s12 7 (g124_84 1), aI cI s13 60 (g124_85 1), oL s2 s21 s22 s23 (g124_82 2), aI cI s21 3 (g124_83 2), aI cI s22 7 (g124_84 2), aI cI s23 60 (g124_85 2), oL s3 s31 s32 s33 (g124_82 3), aI cI s31 3 (g124_83 3), aI cI s32 7 (g124_84 3), aI cI s33 60 (g124_85 3), oL h h1 h2 h3 g124_86, aI cI h1 3 g124_87, aI cI h2 7 g124_88, aI cI h3 60 g124_89, oP z1 pf, oT y1 y2 tf, aC cC y2 60 ch, oL o o1 o2 o3 g124_90, aI cI o1 3 g124_91, aI cI o2 7 g124_92, aI cI o3 60 g124_93, oK t1 kf, aI cI ag 18 (upd ug 5 ((nI (y % 1001)) - 500)), aI cI ar 60 ur, aI cI ad 10 ud] := hD
        refine lv_iload hx hb dL_acts_127 (lv_at hl 0 rfl) ?_
        refine lv_icmp_ne (tgt := 136) hx hb dL_acts_129 (by decide) (fun h0 => absurd h0 (not_not_intro (s_pump hZ (Nat.mod_lt y (by decide))).1)) (fun _ => ?_)
        refine lv_iconst (v := 1) hx hb dL_acts_132 (by decide) ?_
        refine lv_goto (tgt := 137) hx hb dL_acts_133 (by decide) ?_
        revert hP; revert hD; revert hS; revert hl
        subst eg124_93
        subst eg124_92
        subst eg124_91
        subst eg124_90
        subst eg124_89
        subst eg124_88
        subst eg124_87
        subst eg124_86
        subst eg124_85
        subst eg124_84
        subst eg124_83
        subst eg124_82
        subst eg124_81
        intro hl hS hD hP
        refine W.widen (k := 1) (n := 7) (Nat.zero_le _) (Nat.zero_le _) ?_
        exact ag_iretn [x0, x1, x2, s0, s01, s02, s03, s1, s11, s12, s13, s2, s21, s22, s23, s3, s31, s32, s33, h, h1, h2, h3, z1, y1, y2, o, o1, o2, o3, t1, ag, ar, ad] hx hb hr (by decide) hlocks hP hS rfl rfl ⟨rfl, (gv124_81_L_acts hf f y), (gv124_86_L_acts f y), (gv124_87_L_acts f se y), (gv124_88_L_acts f to y), (gv124_89_L_acts f re y), pf, tf, ch, (gv124_90_L_acts f y), (gv124_91_L_acts se), (gv124_92_L_acts to), (gv124_93_L_acts re), kf, upd ug 5 ((nI (y % 1001)) - 500), ur, ud, (gv124_82_L_acts hf f sf y), (gv124_83_L_acts hf f se sse y), (gv124_84_L_acts hf f to sto y), (gv124_85_L_acts hf f re sre y), rfl, (s_pump hZ (Nat.mod_lt y (by decide))).2⟩ dL_acts_137
    · refine lv_aload_n hx hb dL_acts_64 rfl (lv_at hl 3 rfl) ?_
      refine lv_iconst (v := 4) hx hb dL_acts_65 (by decide) ?_
      refine ag_ild (k := 4) (v := ug 4) hx hb hK hP 31 rfl rfl (Nat.le_of_ble_eq_true rfl) (Nat.le_of_ble_eq_true rfl) rfl dL_acts_66 ?_
      refine lv_istore (lv' := [(7, .int (ug 4)), (6, .int (sr_L_low p1 32)), (5, .int (nI y)), (0, .ref x0), (1, .ref ag), (2, .ref ar), (3, .ref ad), (4, .int p1)]) hx hb dL_acts_67 hl (by decide) rfl (fun ls hl => ?_)
      refine lv_aload_n hx hb dL_acts_69 rfl (lv_at hl 4 rfl) ?_
      refine lv_iconst (v := 4) hx hb dL_acts_70 (by decide) ?_
      refine lv_iload hx hb dL_acts_71 (lv_at hl 2 rfl) ?_
      refine lv_bipush (v := 7) hx hb dL_acts_73 (by decide) ?_
      refine lv_irem hx hb dL_acts_75 (by decide) ?_
      refine ag_tope (nI (y % 7)) (qrem 7 rfl (by decide) (by decide) (by omega)) ?_
      refine ag_ist (k := 4) hx hb hK hP hD hS 31 rfl rfl (Nat.le_of_ble_eq_true rfl) (Nat.le_of_ble_eq_true rfl) dL_acts_76 (fun H locs hP hD hS => ?_)
      have hP : va_P D vwCl [oX x0 h o t1 x1 y1 z1, oH x1 x2 hf, aL cL x2 (gS s0 s1 s2 s3), oL s0 s01 s02 s03 (sf 0), aI cI s01 3 (sse 0), aI cI s02 7 (sto 0), aI cI s03 60 (sre 0), oL s1 s11 s12 s13 (sf 1), aI cI s11 3 (sse 1), aI cI s12 7 (sto 1), aI cI s13 60 (sre 1), oL s2 s21 s22 s23 (sf 2), aI cI s21 3 (sse 2), aI cI s22 7 (sto 2), aI cI s23 60 (sre 2), oL s3 s31 s32 s33 (sf 3), aI cI s31 3 (sse 3), aI cI s32 7 (sto 3), aI cI s33 60 (sre 3), oL h h1 h2 h3 f, aI cI h1 3 se, aI cI h2 7 to, aI cI h3 60 re, oP z1 pf, oT y1 y2 tf, aC cC y2 60 ch, oL o o1 o2 o3 of, aI cI o1 3 ose, aI cI o2 7 oto, aI cI o3 60 ore, oK t1 kf, aI cI ag 18 (upd ug 4 (nI (y % 7))), aI cI ar 60 ur, aI cI ad 10 ud] H := hP
      have hD : va_D A [oX x0 h o t1 x1 y1 z1, oH x1 x2 hf, aL cL x2 (gS s0 s1 s2 s3), oL s0 s01 s02 s03 (sf 0), aI cI s01 3 (sse 0), aI cI s02 7 (sto 0), aI cI s03 60 (sre 0), oL s1 s11 s12 s13 (sf 1), aI cI s11 3 (sse 1), aI cI s12 7 (sto 1), aI cI s13 60 (sre 1), oL s2 s21 s22 s23 (sf 2), aI cI s21 3 (sse 2), aI cI s22 7 (sto 2), aI cI s23 60 (sre 2), oL s3 s31 s32 s33 (sf 3), aI cI s31 3 (sse 3), aI cI s32 7 (sto 3), aI cI s33 60 (sre 3), oL h h1 h2 h3 f, aI cI h1 3 se, aI cI h2 7 to, aI cI h3 60 re, oP z1 pf, oT y1 y2 tf, aC cC y2 60 ch, oL o o1 o2 o3 of, aI cI o1 3 ose, aI cI o2 7 oto, aI cI o3 60 ore, oK t1 kf, aI cI ag 18 (upd ug 4 (nI (y % 7))), aI cI ar 60 ur, aI cI ad 10 ud] := hD
      refine lv_aload_n hx hb dL_acts_77 rfl (lv_at hl 3 rfl) ?_
      refine lv_aload_n hx hb dL_acts_78 rfl (lv_at hl 4 rfl) ?_
      refine lv_iconst (v := 4) hx hb dL_acts_79 (by decide) ?_
      refine ag_ild (k := 4) (v := nI (y % 7)) hx hb hK hP 31 rfl rfl (Nat.le_of_ble_eq_true rfl) (Nat.le_of_ble_eq_true rfl) rfl dL_acts_80 ?_
      refine ag_callVi (As := [.int (nI (y % 7))]) (rest := []) hx hb hml hown hG hK hN hA hP hD hS hl (ct_X5_turbines l D cI cC cL x0 h o t1 x1 y1 z1 x2 s0 s01 s02 s03 s1 s11 s12 s13 s2 s21 s22 s23 s3 s31 s32 s33 h1 h2 h3 y2 o1 o2 o3 hf f se to re pf tf ch of ose oto ore kf (nI (y % 7)) sf sse sto sre) fX5_turbines k_286 (ag_cut_1 [] [aI cI ag 18 (upd ug 4 (nI (y % 7))), aI cI ar 60 ur, aI cI ad 10 ud] rfl) (q0 := 0) rfl rfl rfl rfl (Nat.le_of_ble_eq_true rfl) ⟨Nat.le_of_ble_eq_true rfl, Nat.le_of_ble_eq_true rfl⟩ ⟨Nat.zero_le _, Nat.zero_le _⟩ dL_acts_81 (fun r w1 H locs hw hP hD hS => ?_)
      obtain ⟨rfl, hw⟩ := hw
      generalize eg81_94 : sw1_X5_turbines hf f (nI (y % 7)) = g81_94 at hw
      replace eg81_94 : gv81_94_L_acts hf f y = g81_94 := (by rw [← eg81_94]; rfl)
      generalize eg81_95 : fw_sf_X5_turbines hf f (nI (y % 7)) sf = g81_95 at hw
      replace eg81_95 : gv81_95_L_acts hf f sf y = g81_95 := (by rw [← eg81_95]; rfl)
      generalize eg81_96 : fw_sse_X5_turbines hf f se (nI (y % 7)) sse = g81_96 at hw
      replace eg81_96 : gv81_96_L_acts hf f se sse y = g81_96 := (by rw [← eg81_96]; rfl)
      generalize eg81_97 : fw_sto_X5_turbines hf f to (nI (y % 7)) sto = g81_97 at hw
      replace eg81_97 : gv81_97_L_acts hf f to sto y = g81_97 := (by rw [← eg81_97]; rfl)
      generalize eg81_98 : fw_sre_X5_turbines hf f re (nI (y % 7)) sre = g81_98 at hw
      replace eg81_98 : gv81_98_L_acts hf f re sre y = g81_98 := (by rw [← eg81_98]; rfl)
      generalize eg81_99 : sw19_X5_turbines f (nI (y % 7)) = g81_99 at hw
      replace eg81_99 : gv81_99_L_acts f y = g81_99 := (by rw [← eg81_99]; rfl)
      generalize eg81_100 : sw20_X5_turbines f se (nI (y % 7)) = g81_100 at hw
      replace eg81_100 : gv81_100_L_acts f se y = g81_100 := (by rw [← eg81_100]; rfl)
      generalize eg81_101 : sw21_X5_turbines f to (nI (y % 7)) = g81_101 at hw
      replace eg81_101 : gv81_101_L_acts f to y = g81_101 := (by rw [← eg81_101]; rfl)
      generalize eg81_102 : sw22_X5_turbines f re (nI (y % 7)) = g81_102 at hw
      replace eg81_102 : gv81_102_L_acts f re y = g81_102 := (by rw [← eg81_102]; rfl)
      generalize eg81_103 : sw26_X5_turbines f (nI (y % 7)) = g81_103 at hw
      replace eg81_103 : gv81_103_L_acts f y = g81_103 := (by rw [← eg81_103]; rfl)
      generalize eg81_104 : sw27_X5_turbines se = g81_104 at hw
      replace eg81_104 : gv81_104_L_acts se = g81_104 := (by rw [← eg81_104]; rfl)
      generalize eg81_105 : sw28_X5_turbines to = g81_105 at hw
      replace eg81_105 : gv81_105_L_acts to = g81_105 := (by rw [← eg81_105]; rfl)
      generalize eg81_106 : sw29_X5_turbines re = g81_106 at hw
      replace eg81_106 : gv81_106_L_acts re = g81_106 := (by rw [← eg81_106]; rfl)
      subst hw
      have hP : va_P D vwCl [oX x0 h o t1 x1 y1 z1, oH x1 x2 g81_94, aL cL x2 (gS s0 s1 s2 s3), oL s0 s01 s02 s03 (g81_95 0), aI cI s01 3 (g81_96 0), aI cI s02 7 (g81_97 0), aI cI s03 60 (g81_98 0), oL s1 s11 s12 s13 (g81_95 1), aI cI s11 3 (g81_96 1), aI cI s12 7 (g81_97 1), aI cI s13 60 (g81_98 1), oL s2 s21 s22 s23 (g81_95 2), aI cI s21 3 (g81_96 2), aI cI s22 7 (g81_97 2), aI cI s23 60 (g81_98 2), oL s3 s31 s32 s33 (g81_95 3), aI cI s31 3 (g81_96 3), aI cI s32 7 (g81_97 3), aI cI s33 60 (g81_98 3), oL h h1 h2 h3 g81_99, aI cI h1 3 g81_100, aI cI h2 7 g81_101, aI cI h3 60 g81_102, oP z1 pf, oT y1 y2 tf, aC cC y2 60 ch, oL o o1 o2 o3 g81_103, aI cI o1 3 g81_104, aI cI o2 7 g81_105, aI cI o3 60 g81_106, oK t1 kf, aI cI ag 18 (upd ug 4 (nI (y % 7))), aI cI ar 60 ur, aI cI ad 10 ud] H := hP
      have hD : va_D A [oX x0 h o t1 x1 y1 z1, oH x1 x2 g81_94, aL cL x2 (gS s0 s1 s2 s3), oL s0 s01 s02 s03 (g81_95 0), aI cI s01 3 (g81_96 0), aI cI s02 7 (g81_97 0), aI cI s03 60 (g81_98 0), oL s1 s11 s12 s13 (g81_95 1), aI cI s11 3 (g81_96 1), aI cI s12 7 (g81_97 1), aI cI s13 60 (g81_98 1), oL s2 s21 s22 s23 (g81_95 2), aI cI s21 3 (g81_96 2), aI cI s22 7 (g81_97 2), aI cI s23 60 (g81_98 2), oL s3 s31 s32 s33 (g81_95 3), aI cI s31 3 (g81_96 3), aI cI s32 7 (g81_97 3), aI cI s33 60 (g81_98 3), oL h h1 h2 h3 g81_99, aI cI h1 3 g81_100, aI cI h2 7 g81_101, aI cI h3 60 g81_102, oP z1 pf, oT y1 y2 tf, aC cC y2 60 ch, oL o o1 o2 o3 g81_103, aI cI o1 3 g81_104, aI cI o2 7 g81_105, aI cI o3 60 g81_106, oK t1 kf, aI cI ag 18 (upd ug 4 (nI (y % 7))), aI cI ar 60 ur, aI cI ad 10 ud] := hD
      refine lv_iload hx hb dL_acts_84 (lv_at hl 0 rfl) ?_
      refine lv_icmp_ne (tgt := 93) hx hb dL_acts_86 (by decide) (fun h0 => absurd h0 (not_not_intro (s_turbines hZ (by have := Nat.mod_lt y (show 0 < 7 by decide); omega)).1)) (fun _ => ?_)
      refine lv_iconst (v := 1) hx hb dL_acts_89 (by decide) ?_
      refine lv_goto (tgt := 94) hx hb dL_acts_90 (by decide) ?_
      revert hP; revert hD; revert hS; revert hl
      subst eg81_106
      subst eg81_105
      subst eg81_104
      subst eg81_103
      subst eg81_102
      subst eg81_101
      subst eg81_100
      subst eg81_99
      subst eg81_98
      subst eg81_97
      subst eg81_96
      subst eg81_95
      subst eg81_94
      intro hl hS hD hP
      refine W.widen (k := 1) (n := 7) (Nat.zero_le _) (Nat.zero_le _) ?_
      exact ag_iretn [x0, x1, x2, s0, s01, s02, s03, s1, s11, s12, s13, s2, s21, s22, s23, s3, s31, s32, s33, h, h1, h2, h3, z1, y1, y2, o, o1, o2, o3, t1, ag, ar, ad] hx hb hr (by decide) hlocks hP hS rfl rfl ⟨rfl, (gv81_94_L_acts hf f y), (gv81_99_L_acts f y), (gv81_100_L_acts f se y), (gv81_101_L_acts f to y), (gv81_102_L_acts f re y), pf, tf, ch, (gv81_103_L_acts f y), (gv81_104_L_acts se), (gv81_105_L_acts to), (gv81_106_L_acts re), kf, upd ug 4 (nI (y % 7)), ur, ud, (gv81_95_L_acts hf f sf y), (gv81_96_L_acts hf f se sse y), (gv81_97_L_acts hf f to sto y), (gv81_98_L_acts hf f re sre y), rfl, (s_turbines hZ (by have := Nat.mod_lt y (show 0 < 7 by decide); omega)).2⟩ dL_acts_94
  · refine lv_aload_n hx hb dL_acts_26 rfl (lv_at hl 3 rfl) ?_
    refine lv_iconst (v := 3) hx hb dL_acts_27 (by decide) ?_
    refine ag_ild (k := 3) (v := ug 3) hx hb hK hP 31 rfl rfl (Nat.le_of_ble_eq_true rfl) (Nat.le_of_ble_eq_true rfl) rfl dL_acts_28 ?_
    refine lv_istore (lv' := [(7, .int (ug 3)), (6, .int (sr_L_low p1 32)), (5, .int (nI y)), (0, .ref x0), (1, .ref ag), (2, .ref ar), (3, .ref ad), (4, .int p1)]) hx hb dL_acts_29 hl (by decide) rfl (fun ls hl => ?_)
    refine lv_aload_n hx hb dL_acts_31 rfl (lv_at hl 4 rfl) ?_
    refine lv_iconst (v := 3) hx hb dL_acts_32 (by decide) ?_
    refine lv_iload hx hb dL_acts_33 (lv_at hl 2 rfl) ?_
    refine lv_bipush (v := 9) hx hb dL_acts_35 (by decide) ?_
    refine lv_irem hx hb dL_acts_37 (by decide) ?_
    refine ag_tope (nI (y % 9)) (qrem 9 rfl (by decide) (by decide) (by omega)) ?_
    refine ag_ist (k := 3) hx hb hK hP hD hS 31 rfl rfl (Nat.le_of_ble_eq_true rfl) (Nat.le_of_ble_eq_true rfl) dL_acts_38 (fun H locs hP hD hS => ?_)
    have hP : va_P D vwCl [oX x0 h o t1 x1 y1 z1, oH x1 x2 hf, aL cL x2 (gS s0 s1 s2 s3), oL s0 s01 s02 s03 (sf 0), aI cI s01 3 (sse 0), aI cI s02 7 (sto 0), aI cI s03 60 (sre 0), oL s1 s11 s12 s13 (sf 1), aI cI s11 3 (sse 1), aI cI s12 7 (sto 1), aI cI s13 60 (sre 1), oL s2 s21 s22 s23 (sf 2), aI cI s21 3 (sse 2), aI cI s22 7 (sto 2), aI cI s23 60 (sre 2), oL s3 s31 s32 s33 (sf 3), aI cI s31 3 (sse 3), aI cI s32 7 (sto 3), aI cI s33 60 (sre 3), oL h h1 h2 h3 f, aI cI h1 3 se, aI cI h2 7 to, aI cI h3 60 re, oP z1 pf, oT y1 y2 tf, aC cC y2 60 ch, oL o o1 o2 o3 of, aI cI o1 3 ose, aI cI o2 7 oto, aI cI o3 60 ore, oK t1 kf, aI cI ag 18 (upd ug 3 (nI (y % 9))), aI cI ar 60 ur, aI cI ad 10 ud] H := hP
    have hD : va_D A [oX x0 h o t1 x1 y1 z1, oH x1 x2 hf, aL cL x2 (gS s0 s1 s2 s3), oL s0 s01 s02 s03 (sf 0), aI cI s01 3 (sse 0), aI cI s02 7 (sto 0), aI cI s03 60 (sre 0), oL s1 s11 s12 s13 (sf 1), aI cI s11 3 (sse 1), aI cI s12 7 (sto 1), aI cI s13 60 (sre 1), oL s2 s21 s22 s23 (sf 2), aI cI s21 3 (sse 2), aI cI s22 7 (sto 2), aI cI s23 60 (sre 2), oL s3 s31 s32 s33 (sf 3), aI cI s31 3 (sse 3), aI cI s32 7 (sto 3), aI cI s33 60 (sre 3), oL h h1 h2 h3 f, aI cI h1 3 se, aI cI h2 7 to, aI cI h3 60 re, oP z1 pf, oT y1 y2 tf, aC cC y2 60 ch, oL o o1 o2 o3 of, aI cI o1 3 ose, aI cI o2 7 oto, aI cI o3 60 ore, oK t1 kf, aI cI ag 18 (upd ug 3 (nI (y % 9))), aI cI ar 60 ur, aI cI ad 10 ud] := hD
    refine lv_aload_n hx hb dL_acts_39 rfl (lv_at hl 3 rfl) ?_
    refine lv_aload_n hx hb dL_acts_40 rfl (lv_at hl 4 rfl) ?_
    refine lv_iconst (v := 3) hx hb dL_acts_41 (by decide) ?_
    refine ag_ild (k := 3) (v := nI (y % 9)) hx hb hK hP 31 rfl rfl (Nat.le_of_ble_eq_true rfl) (Nat.le_of_ble_eq_true rfl) rfl dL_acts_42 ?_
    refine ag_callVi (As := [.int (nI (y % 9))]) (rest := []) hx hb hml hown hG hK hN hA hP hD hS hl (ct_X5_gates l D cI cC cL x0 h o t1 x1 y1 z1 x2 s0 s01 s02 s03 s1 s11 s12 s13 s2 s21 s22 s23 s3 s31 s32 s33 h1 h2 h3 y2 o1 o2 o3 hf f se to re pf tf ch of ose oto ore kf (nI (y % 9)) sf sse sto sre) fX5_gates k_251 (ag_cut_1 [] [aI cI ag 18 (upd ug 3 (nI (y % 9))), aI cI ar 60 ur, aI cI ad 10 ud] rfl) (q0 := 0) rfl rfl rfl rfl (Nat.le_of_ble_eq_true rfl) ⟨Nat.le_of_ble_eq_true rfl, Nat.le_of_ble_eq_true rfl⟩ ⟨Nat.zero_le _, Nat.zero_le _⟩ dL_acts_43 (fun r w1 H locs hw hP hD hS => ?_)
    obtain ⟨rfl, hw⟩ := hw
    generalize eg43_107 : sw1_X5_gates hf f (nI (y % 9)) = g43_107 at hw
    replace eg43_107 : gv43_107_L_acts hf f y = g43_107 := (by rw [← eg43_107]; rfl)
    generalize eg43_108 : fw_sf_X5_gates hf f (nI (y % 9)) sf = g43_108 at hw
    replace eg43_108 : gv43_108_L_acts hf f sf y = g43_108 := (by rw [← eg43_108]; rfl)
    generalize eg43_109 : fw_sse_X5_gates hf f se (nI (y % 9)) sse = g43_109 at hw
    replace eg43_109 : gv43_109_L_acts hf f se sse y = g43_109 := (by rw [← eg43_109]; rfl)
    generalize eg43_110 : fw_sto_X5_gates hf f to (nI (y % 9)) sto = g43_110 at hw
    replace eg43_110 : gv43_110_L_acts hf f to sto y = g43_110 := (by rw [← eg43_110]; rfl)
    generalize eg43_111 : fw_sre_X5_gates hf f re (nI (y % 9)) sre = g43_111 at hw
    replace eg43_111 : gv43_111_L_acts hf f re sre y = g43_111 := (by rw [← eg43_111]; rfl)
    generalize eg43_112 : sw19_X5_gates f (nI (y % 9)) = g43_112 at hw
    replace eg43_112 : gv43_112_L_acts f y = g43_112 := (by rw [← eg43_112]; rfl)
    generalize eg43_113 : sw20_X5_gates f se (nI (y % 9)) = g43_113 at hw
    replace eg43_113 : gv43_113_L_acts f se y = g43_113 := (by rw [← eg43_113]; rfl)
    generalize eg43_114 : sw21_X5_gates f to (nI (y % 9)) = g43_114 at hw
    replace eg43_114 : gv43_114_L_acts f to y = g43_114 := (by rw [← eg43_114]; rfl)
    generalize eg43_115 : sw22_X5_gates f re (nI (y % 9)) = g43_115 at hw
    replace eg43_115 : gv43_115_L_acts f re y = g43_115 := (by rw [← eg43_115]; rfl)
    generalize eg43_116 : sw26_X5_gates f (nI (y % 9)) = g43_116 at hw
    replace eg43_116 : gv43_116_L_acts f y = g43_116 := (by rw [← eg43_116]; rfl)
    generalize eg43_117 : sw27_X5_gates se = g43_117 at hw
    replace eg43_117 : gv43_117_L_acts se = g43_117 := (by rw [← eg43_117]; rfl)
    generalize eg43_118 : sw28_X5_gates to = g43_118 at hw
    replace eg43_118 : gv43_118_L_acts to = g43_118 := (by rw [← eg43_118]; rfl)
    generalize eg43_119 : sw29_X5_gates re = g43_119 at hw
    replace eg43_119 : gv43_119_L_acts re = g43_119 := (by rw [← eg43_119]; rfl)
    subst hw
    have hP : va_P D vwCl [oX x0 h o t1 x1 y1 z1, oH x1 x2 g43_107, aL cL x2 (gS s0 s1 s2 s3), oL s0 s01 s02 s03 (g43_108 0), aI cI s01 3 (g43_109 0), aI cI s02 7 (g43_110 0), aI cI s03 60 (g43_111 0), oL s1 s11 s12 s13 (g43_108 1), aI cI s11 3 (g43_109 1), aI cI s12 7 (g43_110 1), aI cI s13 60 (g43_111 1), oL s2 s21 s22 s23 (g43_108 2), aI cI s21 3 (g43_109 2), aI cI s22 7 (g43_110 2), aI cI s23 60 (g43_111 2), oL s3 s31 s32 s33 (g43_108 3), aI cI s31 3 (g43_109 3), aI cI s32 7 (g43_110 3), aI cI s33 60 (g43_111 3), oL h h1 h2 h3 g43_112, aI cI h1 3 g43_113, aI cI h2 7 g43_114, aI cI h3 60 g43_115, oP z1 pf, oT y1 y2 tf, aC cC y2 60 ch, oL o o1 o2 o3 g43_116, aI cI o1 3 g43_117, aI cI o2 7 g43_118, aI cI o3 60 g43_119, oK t1 kf, aI cI ag 18 (upd ug 3 (nI (y % 9))), aI cI ar 60 ur, aI cI ad 10 ud] H := hP
    have hD : va_D A [oX x0 h o t1 x1 y1 z1, oH x1 x2 g43_107, aL cL x2 (gS s0 s1 s2 s3), oL s0 s01 s02 s03 (g43_108 0), aI cI s01 3 (g43_109 0), aI cI s02 7 (g43_110 0), aI cI s03 60 (g43_111 0), oL s1 s11 s12 s13 (g43_108 1), aI cI s11 3 (g43_109 1), aI cI s12 7 (g43_110 1), aI cI s13 60 (g43_111 1), oL s2 s21 s22 s23 (g43_108 2), aI cI s21 3 (g43_109 2), aI cI s22 7 (g43_110 2), aI cI s23 60 (g43_111 2), oL s3 s31 s32 s33 (g43_108 3), aI cI s31 3 (g43_109 3), aI cI s32 7 (g43_110 3), aI cI s33 60 (g43_111 3), oL h h1 h2 h3 g43_112, aI cI h1 3 g43_113, aI cI h2 7 g43_114, aI cI h3 60 g43_115, oP z1 pf, oT y1 y2 tf, aC cC y2 60 ch, oL o o1 o2 o3 g43_116, aI cI o1 3 g43_117, aI cI o2 7 g43_118, aI cI o3 60 g43_119, oK t1 kf, aI cI ag 18 (upd ug 3 (nI (y % 9))), aI cI ar 60 ur, aI cI ad 10 ud] := hD
    refine lv_iload hx hb dL_acts_46 (lv_at hl 0 rfl) ?_
    refine lv_icmp_ne (tgt := 55) hx hb dL_acts_48 (by decide) (fun h0 => absurd h0 (not_not_intro (s_gates hZ (by have := Nat.mod_lt y (show 0 < 9 by decide); omega)).1)) (fun _ => ?_)
    refine lv_iconst (v := 1) hx hb dL_acts_51 (by decide) ?_
    refine lv_goto (tgt := 56) hx hb dL_acts_52 (by decide) ?_
    revert hP; revert hD; revert hS; revert hl
    subst eg43_119
    subst eg43_118
    subst eg43_117
    subst eg43_116
    subst eg43_115
    subst eg43_114
    subst eg43_113
    subst eg43_112
    subst eg43_111
    subst eg43_110
    subst eg43_109
    subst eg43_108
    subst eg43_107
    intro hl hS hD hP
    refine W.widen (k := 1) (n := 7) (Nat.zero_le _) (Nat.zero_le _) ?_
    exact ag_iretn [x0, x1, x2, s0, s01, s02, s03, s1, s11, s12, s13, s2, s21, s22, s23, s3, s31, s32, s33, h, h1, h2, h3, z1, y1, y2, o, o1, o2, o3, t1, ag, ar, ad] hx hb hr (by decide) hlocks hP hS rfl rfl ⟨rfl, (gv43_107_L_acts hf f y), (gv43_112_L_acts f y), (gv43_113_L_acts f se y), (gv43_114_L_acts f to y), (gv43_115_L_acts f re y), pf, tf, ch, (gv43_116_L_acts f y), (gv43_117_L_acts se), (gv43_118_L_acts to), (gv43_119_L_acts re), kf, upd ug 3 (nI (y % 9)), ur, ud, (gv43_108_L_acts hf f sf y), (gv43_109_L_acts hf f se sse y), (gv43_110_L_acts hf f to sto y), (gv43_111_L_acts hf f re sre y), rfl, (s_gates hZ (by have := Nat.mod_lt y (show 0 < 9 by decide); omega)).2⟩ dL_acts_56
