/-! share, and what the JDK says of bits -/
theorem fb_self {E T : Nat} {x : UInt32} (h : fbv E T x) (op : CmpOp) : Op.cmpValue (FP.fcmp x x) op = 0 := by
  rcases h with h | h
  · rw [h.1]; cases op <;> decide +kernel
  · have e : FP.fcmp x x = FP.Core.order (FP.Core.decode FP.Core.b32 x.toNat) (FP.Core.decode FP.Core.b32 x.toNat) := rfl
    rw [e, h.2.2.2, fb_dec h.1 h.2.1 h.2.2.1]
    unfold FP.Core.order
    dsimp only
    rw [fb_ord, if_neg (Int.lt_irrefl _), if_pos rfl]
    cases op <;> rfl
theorem fb_zdiv {E T : Nat} (h1 : 1 ≤ E) (h2 : E ≤ 254) (hT : T < 8388608) : FP.fdiv FP.fconst0 (fb E T) = FP.fconst0 := by
  have e : FP.fdiv FP.fconst0 (fb E T) = UInt32.ofNat (FP.Core.encode FP.Core.b32 (FP.Core.quotient FP.Core.b32 (FP.Core.decode FP.Core.b32 FP.fconst0.toNat) (FP.Core.decode FP.Core.b32 (fb E T).toNat))) := rfl
  rw [e, fb_dec h1 h2 hT, show FP.Core.decode FP.Core.b32 FP.fconst0.toNat = .fin false 0 (-149) by decide +kernel]
  unfold FP.Core.quotient
  dsimp only
  rw [if_neg (by omega)]
  unfold FP.Core.roundRatio
  rw [if_pos rfl]
  decide +kernel
theorem fb_quot {a b : Nat} (ha : a < 1073741824) (hb : b < 1073741824) (h0 : 0 < b) : ∃ E T : Nat, fbv E T (FP.fdiv (FP.i2f (nI a)) (FP.i2f (nI b))) := by
  obtain ⟨F, U, f1, f2, f3, f4⟩ := fb_i2f h0 hb
  rw [f4]
  by_cases h : a = 0
  · rw [h, show FP.i2f (nI 0) = FP.fconst0 by decide +kernel, fb_zdiv (by omega) (by omega) f3]
    exact ⟨0, 0, Or.inl ⟨rfl, rfl, rfl⟩⟩
  · obtain ⟨E, T, e1, e2, e3, e4⟩ := fb_i2f (by omega) ha
    rw [e4]
    obtain ⟨G, V, g1, g2, g3, g4, g5⟩ := fb_div (E := E) (T := T) (F := F) (U := U) (by omega) (by omega) e3 (by omega) (by omega) f3 (by omega) (by omega)
    exact ⟨G, V, Or.inr ⟨g1, by omega, g4, g5⟩⟩
def sr_X5_share (to : Nat → Int32) (E : Nat) (T : Nat) : Int32 := if 0 < (to 0) then nI (E * 8388608 + T) else (-1000000004)
abbrev po_X5_share (cI cC cL : ClassId) (x0 h o t1 x1 y1 z1 x2 s0 s01 s02 s03 s1 s11 s12 s13 s2 s21 s22 s23 s3 s31 s32 s33 h1 h2 h3 y2 o1 o2 o3 : Nat) (hf f se to re pf tf ch of ose oto ore kf : Nat → Int32) (sf : Nat → Nat → Int32) (sse : Nat → Nat → Int32) (sto : Nat → Nat → Int32) (sre : Nat → Nat → Int32) (E : Nat) (T : Nat) (hv : 0 < to 0 → fbv E T (FP.fdiv (FP.i2f (to 1)) (FP.i2f (to 0)))) : Int32 → va_W → Prop := fun r w' => sr_X5_share to E T = r ∧ [oX x0 h o t1 x1 y1 z1, oH x1 x2 hf, aL cL x2 (gS s0 s1 s2 s3), oL s0 s01 s02 s03 (sf 0), aI cI s01 3 (sse 0), aI cI s02 7 (sto 0), aI cI s03 60 (sre 0), oL s1 s11 s12 s13 (sf 1), aI cI s11 3 (sse 1), aI cI s12 7 (sto 1), aI cI s13 60 (sre 1), oL s2 s21 s22 s23 (sf 2), aI cI s21 3 (sse 2), aI cI s22 7 (sto 2), aI cI s23 60 (sre 2), oL s3 s31 s32 s33 (sf 3), aI cI s31 3 (sse 3), aI cI s32 7 (sto 3), aI cI s33 60 (sre 3), oL h h1 h2 h3 f, aI cI h1 3 se, aI cI h2 7 to, aI cI h3 60 re, oP z1 pf, oT y1 y2 tf, aC cC y2 60 ch, oL o o1 o2 o3 of, aI cI o1 3 ose, aI cI o2 7 oto, aI cI o3 60 ore, oK t1 kf] = w'
set_option maxHeartbeats 4000000 in
set_option maxRecDepth 100000 in
theorem ct_X5_share (l : Launch) (D : va_G) (cI cC cL : ClassId) (x0 h o t1 x1 y1 z1 x2 s0 s01 s02 s03 s1 s11 s12 s13 s2 s21 s22 s23 s3 s31 s32 s33 h1 h2 h3 y2 o1 o2 o3 : Nat) (hf f se to re pf tf ch of ose oto ore kf : Nat → Int32) (sf : Nat → Nat → Int32) (sse : Nat → Nat → Int32) (sto : Nat → Nat → Int32) (sre : Nat → Nat → Int32) (E : Nat) (T : Nat) (hv : 0 < to 0 → fbv E T (FP.fdiv (FP.i2f (to 1)) (FP.i2f (to 0)))) : ag_MI l yX5_share cX5_share 2 .int 1 23 D cI cC cL [.ref x0] [oX x0 h o t1 x1 y1 z1, oH x1 x2 hf, aL cL x2 (gS s0 s1 s2 s3), oL s0 s01 s02 s03 (sf 0), aI cI s01 3 (sse 0), aI cI s02 7 (sto 0), aI cI s03 60 (sre 0), oL s1 s11 s12 s13 (sf 1), aI cI s11 3 (sse 1), aI cI s12 7 (sto 1), aI cI s13 60 (sre 1), oL s2 s21 s22 s23 (sf 2), aI cI s21 3 (sse 2), aI cI s22 7 (sto 2), aI cI s23 60 (sre 2), oL s3 s31 s32 s33 (sf 3), aI cI s31 3 (sse 3), aI cI s32 7 (sto 3), aI cI s33 60 (sre 3), oL h h1 h2 h3 f, aI cI h1 3 se, aI cI h2 7 to, aI cI h3 60 re, oP z1 pf, oT y1 y2 tf, aC cC y2 60 ch, oL o o1 o2 o3 of, aI cI o1 3 ose, aI cI o2 7 oto, aI cI o3 60 ore, oK t1 kf] (po_X5_share cI cC cL x0 h o t1 x1 y1 z1 x2 s0 s01 s02 s03 s1 s11 s12 s13 s2 s21 s22 s23 s3 s31 s32 s33 h1 h2 h3 y2 o1 o2 o3 hf f se to re pf tf ch of ose oto ore kf sf sse sto sre E T hv) := by
  refine ag_MI.of (plainFor_of_name (by decide)) (Nat.le_of_ble_eq_true rfl) ?_
  intro p e s m below meth c hx hb hr hlocks hml hown hmn hG hK A hN hA H locs hP hD hS ls hl
  have hl : lv_has ls 2 [(0, .ref x0)] := hl
  refine lv_aload_n hx hb dX5_share_0 rfl (lv_at hl 0 rfl) ?_
  refine ag_getX5 (v := .ref h) hx hb hG hown hK hP 0 0 rfl (by decide) k_217 rfl dX5_share_1 ?_
  refine ag_getX1 (v := .ref h2) hx hb hG hown hK hP 19 9 rfl (by decide) k_76 rfl dX5_share_4 ?_
  refine lv_iconst (v := 0) hx hb dX5_share_7 (by decide) ?_
  refine ag_ild (k := 0) (v := to 0) hx hb hK hP 21 rfl rfl (Nat.le_of_ble_eq_true rfl) (Nat.le_of_ble_eq_true rfl) rfl dX5_share_8 ?_
  refine lv_istore_n (lv' := [(1, .int (to 0)), (0, .ref x0)]) hx hb dX5_share_9 rfl hl (by decide) rfl (fun ls hl => ?_)
  refine lv_iload_n hx hb dX5_share_10 rfl (lv_at hl 0 rfl) ?_
  refine lv_if_gt (tgt := 17) hx hb dX5_share_11 (by decide) (fun c_11 => ?_) (fun c_11 => ?_)
  · refine lv_aload_n hx hb dX5_share_17 rfl (lv_at hl 1 rfl) ?_
    refine ag_getX5 (v := .ref h) hx hb hG hown hK hP 0 0 rfl (by decide) k_217 rfl dX5_share_18 ?_
    refine ag_getX1 (v := .ref h2) hx hb hG hown hK hP 19 9 rfl (by decide) k_76 rfl dX5_share_21 ?_
    refine lv_iconst (v := 1) hx hb dX5_share_24 (by decide) ?_
    refine ag_ild (k := 1) (v := to 1) hx hb hK hP 21 rfl rfl (Nat.le_of_ble_eq_true rfl) (Nat.le_of_ble_eq_true rfl) rfl dX5_share_25 ?_
    refine lv_i2f hx hb dX5_share_26 ?_
    refine lv_iload_n hx hb dX5_share_27 rfl (lv_at hl 0 rfl) ?_
    refine lv_i2f hx hb dX5_share_28 ?_
    refine lv_fdiv hx hb dX5_share_29 (fb_isn (hv c_11)) ?_
    refine ag_callSi (As := [.float (FP.fdiv (FP.i2f (to 1)) (FP.i2f (to 0)))]) (rest := []) hx hb hml hown hG hK hN hA hP hD hS hl (ct_X5_floatBits l D cI cC cL (FP.fdiv (FP.i2f (to 1)) (FP.i2f (to 0))) E T (hv c_11)) fX5_floatBits k_457 ag_cut_0 rfl (Nat.le_of_ble_eq_true rfl) ⟨Nat.le_of_ble_eq_true rfl, Nat.le_of_ble_eq_true rfl⟩ ⟨Nat.zero_le _, Nat.zero_le _⟩ dX5_share_30 (fun r w1 H locs hw hP hD hS => ?_)
    obtain ⟨rfl, hw⟩ := hw
    subst hw
    have hP : va_P D vwCl [oX x0 h o t1 x1 y1 z1, oH x1 x2 hf, aL cL x2 (gS s0 s1 s2 s3), oL s0 s01 s02 s03 (sf 0), aI cI s01 3 (sse 0), aI cI s02 7 (sto 0), aI cI s03 60 (sre 0), oL s1 s11 s12 s13 (sf 1), aI cI s11 3 (sse 1), aI cI s12 7 (sto 1), aI cI s13 60 (sre 1), oL s2 s21 s22 s23 (sf 2), aI cI s21 3 (sse 2), aI cI s22 7 (sto 2), aI cI s23 60 (sre 2), oL s3 s31 s32 s33 (sf 3), aI cI s31 3 (sse 3), aI cI s32 7 (sto 3), aI cI s33 60 (sre 3), oL h h1 h2 h3 f, aI cI h1 3 se, aI cI h2 7 to, aI cI h3 60 re, oP z1 pf, oT y1 y2 tf, aC cC y2 60 ch, oL o o1 o2 o3 of, aI cI o1 3 ose, aI cI o2 7 oto, aI cI o3 60 ore, oK t1 kf] H := hP
    have hD : va_D A [oX x0 h o t1 x1 y1 z1, oH x1 x2 hf, aL cL x2 (gS s0 s1 s2 s3), oL s0 s01 s02 s03 (sf 0), aI cI s01 3 (sse 0), aI cI s02 7 (sto 0), aI cI s03 60 (sre 0), oL s1 s11 s12 s13 (sf 1), aI cI s11 3 (sse 1), aI cI s12 7 (sto 1), aI cI s13 60 (sre 1), oL s2 s21 s22 s23 (sf 2), aI cI s21 3 (sse 2), aI cI s22 7 (sto 2), aI cI s23 60 (sre 2), oL s3 s31 s32 s33 (sf 3), aI cI s31 3 (sse 3), aI cI s32 7 (sto 3), aI cI s33 60 (sre 3), oL h h1 h2 h3 f, aI cI h1 3 se, aI cI h2 7 to, aI cI h3 60 re, oP z1 pf, oT y1 y2 tf, aC cC y2 60 ch, oL o o1 o2 o3 of, aI cI o1 3 ose, aI cI o2 7 oto, aI cI o3 60 ore, oK t1 kf] := hD
    exact ag_iret [x0, x1, x2, s0, s01, s02, s03, s1, s11, s12, s13, s2, s21, s22, s23, s3, s31, s32, s33, h, h1, h2, h3, z1, y1, y2, o, o1, o2, o3, t1] hx hb hr rfl hlocks hP hS rfl rfl ⟨(by unfold sr_X5_share; rw [if_pos c_11]), rfl⟩ dX5_share_33
  · refine lv_ldc (v := (-1000000004)) hx hb hown (hG _ k_412) dX5_share_14 ?_
    exact ag_iret [x0, x1, x2, s0, s01, s02, s03, s1, s11, s12, s13, s2, s21, s22, s23, s3, s31, s32, s33, h, h1, h2, h3, z1, y1, y2, o, o1, o2, o3, t1] hx hb hr rfl hlocks hP hS rfl rfl ⟨(by unfold sr_X5_share; rw [if_neg c_11]), rfl⟩ dX5_share_16
def sr_Jxf58ca_isNaN_12338 : Int32 := 0
abbrev po_Jxf58ca_isNaN_12338 (cI cC cL : ClassId) (p1 : UInt32) (E : Nat) (T : Nat) (hv : fbv E T p1) : Int32 → va_W → Prop := fun r w' => sr_Jxf58ca_isNaN_12338 = r ∧ [] = w'
set_option maxHeartbeats 4000000 in
set_option maxRecDepth 100000 in
theorem ct_Jxf58ca_isNaN_12338 (l : Launch) (D : va_G) (cI cC cL : ClassId) (p1 : UInt32) (E : Nat) (T : Nat) (hv : fbv E T p1) : ag_MI l yJxf58ca_isNaN_12338 cJxf58ca_isNaN_12338 1 .boolean 0 0 D cI cC cL [.float p1] [] (po_Jxf58ca_isNaN_12338 cI cC cL p1 E T hv) := by
  refine ag_MI.of (by decide +kernel) (Nat.le_of_ble_eq_true rfl) ?_
  intro p e s m below meth c hx hb hr hlocks hml hown hmn hG hK A hN hA H locs hP hD hS ls hl
  have hl : lv_has ls 1 [(0, .float p1)] := hl
  refine lv_fload_n hx hb dJxf58ca_isNaN_12338_0 rfl (lv_at hl 0 rfl) ?_
  refine lv_fload_n hx hb dJxf58ca_isNaN_12338_1 rfl (lv_at hl 0 rfl) ?_
  refine lv_fcmp hx hb dJxf58ca_isNaN_12338_2 ?_
  refine lv_if_eq (tgt := 10) hx hb dJxf58ca_isNaN_12338_3 (by decide) (fun _ => ?_) (fun h0 => absurd (fb_self hv _) h0)
  refine lv_iconst (v := 0) hx hb dJxf58ca_isNaN_12338_10 (by decide) ?_
  exact ag_iret [] hx hb hr (by decide) hlocks hP hS rfl rfl ⟨rfl, rfl⟩ dJxf58ca_isNaN_12338_11
abbrev po_Jxf58ca_floatToIntBits_5c35a (cI cC cL : ClassId) (p1 : UInt32) (E : Nat) (T : Nat) (hv : fbv E T p1) : Int32 → va_W → Prop := fun r w' => nI (E * 8388608 + T) = r ∧ [] = w'
set_option maxHeartbeats 4000000 in
set_option maxRecDepth 100000 in
theorem ct_Jxf58ca_floatToIntBits_5c35a (l : Launch) (D : va_G) (cI cC cL : ClassId) (p1 : UInt32) (E : Nat) (T : Nat) (hv : fbv E T p1) : ag_MI l yJxf58ca_floatToIntBits_5c35a cJxf58ca_floatToIntBits_5c35a 1 .int 1 20 D cI cC cL [.float p1] [] (po_Jxf58ca_floatToIntBits_5c35a cI cC cL p1 E T hv) := by
  refine ag_MI.of (by decide +kernel) (Nat.le_of_ble_eq_true rfl) ?_
  intro p e s m below meth c hx hb hr hlocks hml hown hmn hG hK A hN hA H locs hP hD hS ls hl
  have hl : lv_has ls 1 [(0, .float p1)] := hl
  refine lv_fload_n hx hb dJxf58ca_floatToIntBits_5c35a_0 rfl (lv_at hl 0 rfl) ?_
  refine ag_callSi (As := [.float p1]) (rest := []) hx hb hml hown hG hK hN hA hP hD hS hl (ct_Jxf58ca_isNaN_12338 l D cI cC cL p1 E T hv) fJxf58ca_isNaN_12338 k_737 ag_cut_0 rfl (Nat.le_of_ble_eq_true rfl) ⟨Nat.le_of_ble_eq_true rfl, Nat.le_of_ble_eq_true rfl⟩ ⟨Nat.zero_le _, Nat.zero_le _⟩ dJxf58ca_floatToIntBits_5c35a_1 (fun r w1 H locs hw hP hD hS => ?_)
  obtain ⟨rfl, hw⟩ := hw
  subst hw
  have hP : va_P D vwCl [] H := hP
  have hD : va_D A [] := hD
  refine lv_if_ne (tgt := 12) hx hb dJxf58ca_floatToIntBits_5c35a_4 (by decide) (fun h0 => absurd h0 (fun h => h rfl)) (fun _ => ?_)
  refine lv_fload_n hx hb dJxf58ca_floatToIntBits_5c35a_7 rfl (lv_at hl 0 rfl) ?_
  refine vn_f2i hx hb (hml.trans hl.1.symm) hown (hG _ k_740) (hG _ k_742) (hG _ k_741) (hG _ k_37) (Nat.le_of_ble_eq_true rfl) (Nat.le_of_ble_eq_true rfl) dJxf58ca_floatToIntBits_5c35a_8 ?_
  refine W.eq (g2 := F0 m 11 ls [.int (nI (E * 8388608 + T))]) (by rw [fb_raw hv]) ?_
  exact ag_iret [] hx hb hr rfl hlocks hP hS rfl rfl ⟨rfl, rfl⟩ dJxf58ca_floatToIntBits_5c35a_11
