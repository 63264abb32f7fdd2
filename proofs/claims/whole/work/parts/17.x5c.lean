/-! the class itself: loops -/
def sa (t lv : Int32) : Nat → Nat → Int32
  | 0, _ => -1000000004
  | n + 1, i => if sr_X5_seaLevel (t + nI i) < lv then sa t lv n (i + 1) else nI i
def sr_X5_seaAt (f : Nat → Int32) (p1 : Int32) : Int32 := if p1 < (-400) then (-1000000001) else if p1 ≤ 400 then sa (f 0) p1 2017 0 else (-1000000001)
abbrev po_X5_seaAt (cI cC cL : ClassId) (x0 h o t1 x1 y1 z1 x2 s0 s01 s02 s03 s1 s11 s12 s13 s2 s21 s22 s23 s3 s31 s32 s33 h1 h2 h3 y2 o1 o2 o3 : Nat) (hf f se to re pf tf ch of ose oto ore kf : Nat → Int32) (p1 : Int32) (sf : Nat → Nat → Int32) (sse : Nat → Nat → Int32) (sto : Nat → Nat → Int32) (sre : Nat → Nat → Int32) : Int32 → va_W → Prop := fun r w' => sr_X5_seaAt f p1 = r ∧ [oX x0 h o t1 x1 y1 z1, oH x1 x2 hf, aL cL x2 (gS s0 s1 s2 s3), oL s0 s01 s02 s03 (sf 0), aI cI s01 3 (sse 0), aI cI s02 7 (sto 0), aI cI s03 60 (sre 0), oL s1 s11 s12 s13 (sf 1), aI cI s11 3 (sse 1), aI cI s12 7 (sto 1), aI cI s13 60 (sre 1), oL s2 s21 s22 s23 (sf 2), aI cI s21 3 (sse 2), aI cI s22 7 (sto 2), aI cI s23 60 (sre 2), oL s3 s31 s32 s33 (sf 3), aI cI s31 3 (sse 3), aI cI s32 7 (sto 3), aI cI s33 60 (sre 3), oL h h1 h2 h3 f, aI cI h1 3 se, aI cI h2 7 to, aI cI h3 60 re, oP z1 pf, oT y1 y2 tf, aC cC y2 60 ch, oL o o1 o2 o3 of, aI cI o1 3 ose, aI cI o2 7 oto, aI cI o3 60 ore, oK t1 kf] = w'
set_option maxHeartbeats 4000000 in
set_option maxRecDepth 100000 in
theorem ct_X5_seaAt (l : Launch) (D : va_G) (cI cC cL : ClassId) (x0 h o t1 x1 y1 z1 x2 s0 s01 s02 s03 s1 s11 s12 s13 s2 s21 s22 s23 s3 s31 s32 s33 h1 h2 h3 y2 o1 o2 o3 : Nat) (hf f se to re pf tf ch of ose oto ore kf : Nat → Int32) (p1 : Int32) (sf : Nat → Nat → Int32) (sse : Nat → Nat → Int32) (sto : Nat → Nat → Int32) (sre : Nat → Nat → Int32) : ag_MI l yX5_seaAt cX5_seaAt 3 .int 2 43 D cI cC cL [.ref x0, .int p1] [oX x0 h o t1 x1 y1 z1, oH x1 x2 hf, aL cL x2 (gS s0 s1 s2 s3), oL s0 s01 s02 s03 (sf 0), aI cI s01 3 (sse 0), aI cI s02 7 (sto 0), aI cI s03 60 (sre 0), oL s1 s11 s12 s13 (sf 1), aI cI s11 3 (sse 1), aI cI s12 7 (sto 1), aI cI s13 60 (sre 1), oL s2 s21 s22 s23 (sf 2), aI cI s21 3 (sse 2), aI cI s22 7 (sto 2), aI cI s23 60 (sre 2), oL s3 s31 s32 s33 (sf 3), aI cI s31 3 (sse 3), aI cI s32 7 (sto 3), aI cI s33 60 (sre 3), oL h h1 h2 h3 f, aI cI h1 3 se, aI cI h2 7 to, aI cI h3 60 re, oP z1 pf, oT y1 y2 tf, aC cC y2 60 ch, oL o o1 o2 o3 of, aI cI o1 3 ose, aI cI o2 7 oto, aI cI o3 60 ore, oK t1 kf] (po_X5_seaAt cI cC cL x0 h o t1 x1 y1 z1 x2 s0 s01 s02 s03 s1 s11 s12 s13 s2 s21 s22 s23 s3 s31 s32 s33 h1 h2 h3 y2 o1 o2 o3 hf f se to re pf tf ch of ose oto ore kf p1 sf sse sto sre) := by
  refine ag_MI.of (plainFor_of_name (by decide)) (Nat.le_of_ble_eq_true rfl) ?_
  intro p e s m below meth c hx hb hr hlocks hml hown hmn hG hK A hN hA H locs hP hD hS ls hl
  have hl : lv_has ls 3 [(0, .ref x0), (1, .int p1)] := hl
  refine lv_iload_n hx hb dX5_seaAt_0 rfl (lv_at hl 1 rfl) ?_
  refine lv_sipush (v := (-400)) hx hb dX5_seaAt_1 (by decide) ?_
  refine lv_icmp_lt (tgt := 14) hx hb dX5_seaAt_4 (by decide) (fun c_4 => ?_) (fun c_4 => ?_)
  · refine lv_ldc (v := (-1000000001)) hx hb hown (hG _ k_259) dX5_seaAt_14 ?_
    exact ag_iret [x0, x1, x2, s0, s01, s02, s03, s1, s11, s12, s13, s2, s21, s22, s23, s3, s31, s32, s33, h, h1, h2, h3, z1, y1, y2, o, o1, o2, o3, t1] hx hb hr rfl hlocks hP hS rfl rfl ⟨(by unfold sr_X5_seaAt; rw [if_pos c_4]), rfl⟩ dX5_seaAt_16
  · refine lv_iload_n hx hb dX5_seaAt_7 rfl (lv_at hl 1 rfl) ?_
    refine lv_sipush (v := 400) hx hb dX5_seaAt_8 (by decide) ?_
    refine lv_icmp_le (tgt := 17) hx hb dX5_seaAt_11 (by decide) (fun c_11 => ?_) (fun c_11 => ?_)
    · refine lv_iconst (v := 0) hx hb dX5_seaAt_17 (by decide) ?_
      refine lv_istore_n (lv' := [(2, .int 0), (0, .ref x0), (1, .int p1)]) hx hb dX5_seaAt_18 rfl hl (by decide) rfl (fun ls hl => ?_)
      suffices L19 : ∀ (n : Nat) (i : Nat), (hi : i + n = 2017) → (hR : sa (f 0) p1 n i = sa (f 0) p1 2017 0) → ∀ (H : Heap) (locs : List Loc) (ls : Array Slot), lv_has ls 3 [(0, .ref x0), (1, .int p1), (2, .int (nI i))] → va_P D vwCl [oX x0 h o t1 x1 y1 z1, oH x1 x2 hf, aL cL x2 (gS s0 s1 s2 s3), oL s0 s01 s02 s03 (sf 0), aI cI s01 3 (sse 0), aI cI s02 7 (sto 0), aI cI s03 60 (sre 0), oL s1 s11 s12 s13 (sf 1), aI cI s11 3 (sse 1), aI cI s12 7 (sto 1), aI cI s13 60 (sre 1), oL s2 s21 s22 s23 (sf 2), aI cI s21 3 (sse 2), aI cI s22 7 (sto 2), aI cI s23 60 (sre 2), oL s3 s31 s32 s33 (sf 3), aI cI s31 3 (sse 3), aI cI s32 7 (sto 3), aI cI s33 60 (sre 3), oL h h1 h2 h3 f, aI cI h1 3 se, aI cI h2 7 to, aI cI h3 60 re, oP z1 pf, oT y1 y2 tf, aC cC y2 60 ch, oL o o1 o2 o3 of, aI cI o1 3 ose, aI cI o2 7 oto, aI cI o3 60 ore, oK t1 kf] H → va_D A [oX x0 h o t1 x1 y1 z1, oH x1 x2 hf, aL cL x2 (gS s0 s1 s2 s3), oL s0 s01 s02 s03 (sf 0), aI cI s01 3 (sse 0), aI cI s02 7 (sto 0), aI cI s03 60 (sre 0), oL s1 s11 s12 s13 (sf 1), aI cI s11 3 (sse 1), aI cI s12 7 (sto 1), aI cI s13 60 (sre 1), oL s2 s21 s22 s23 (sf 2), aI cI s21 3 (sse 2), aI cI s22 7 (sto 2), aI cI s23 60 (sre 2), oL s3 s31 s32 s33 (sf 3), aI cI s31 3 (sse 3), aI cI s32 7 (sto 3), aI cI s33 60 (sre 3), oL h h1 h2 h3 f, aI cI h1 3 se, aI cI h2 7 to, aI cI h3 60 re, oP z1 pf, oT y1 y2 tf, aC cC y2 60 ch, oL o o1 o2 o3 of, aI cI o1 3 ose, aI cI o2 7 oto, aI cI o3 60 ore, oK t1 kf] → va_S A s.heap H locs → W p l e (ag_rm 2 43) s m ([.ref x0, .int p1] : List Value).toArray below meth c H locs 0 0 (MQ below (va_Qi (po_X5_seaAt cI cC cL x0 h o t1 x1 y1 z1 x2 s0 s01 s02 s03 s1 s11 s12 s13 s2 s21 s22 s23 s3 s31 s32 s33 h1 h2 h3 y2 o1 o2 o3 hf f se to re pf tf ch of ose oto ore kf p1 sf sse sto sre) (ag_Out D [oX x0 h o t1 x1 y1 z1, oH x1 x2 hf, aL cL x2 (gS s0 s1 s2 s3), oL s0 s01 s02 s03 (sf 0), aI cI s01 3 (sse 0), aI cI s02 7 (sto 0), aI cI s03 60 (sre 0), oL s1 s11 s12 s13 (sf 1), aI cI s11 3 (sse 1), aI cI s12 7 (sto 1), aI cI s13 60 (sre 1), oL s2 s21 s22 s23 (sf 2), aI cI s21 3 (sse 2), aI cI s22 7 (sto 2), aI cI s23 60 (sre 2), oL s3 s31 s32 s33 (sf 3), aI cI s31 3 (sse 3), aI cI s32 7 (sto 3), aI cI s33 60 (sre 3), oL h h1 h2 h3 f, aI cI h1 3 se, aI cI h2 7 to, aI cI h3 60 re, oP z1 pf, oT y1 y2 tf, aC cC y2 60 ch, oL o o1 o2 o3 of, aI cI o1 3 ose, aI cI o2 7 oto, aI cI o3 60 ore, oK t1 kf]) A) ([.ref x0, .int p1] : List Value).toArray s 0 0 A) (F0 m 19 ls []) from L19 2017 0 (by omega) rfl H locs ls (lv_sub hl [1, 2, 0] rfl) hP hD hS
      intro n
      induction n with
      | zero =>
        intro i hi hR H locs ls hl hP hD hS
        refine lv_iload_n hx hb dX5_seaAt_19 rfl (lv_at hl 2 rfl) ?_
        refine lv_sipush (v := 2016) hx hb dX5_seaAt_20 (by decide) ?_
        refine lv_icmp_gt (tgt := 50) hx hb dX5_seaAt_23 (by decide) (fun _ => ?_) (fun h0 => absurd (nI_lt (a := 2016) (by omega) (by omega)) h0)
        refine lv_ldc (v := (-1000000004)) hx hb hown (hG _ k_412) dX5_seaAt_50 ?_
        exact ag_iret [x0, x1, x2, s0, s01, s02, s03, s1, s11, s12, s13, s2, s21, s22, s23, s3, s31, s32, s33, h, h1, h2, h3, z1, y1, y2, o, o1, o2, o3, t1] hx hb hr rfl hlocks hP hS rfl rfl ⟨(by unfold sr_X5_seaAt; rw [if_neg c_4, if_pos c_11, ← hR]; rfl), rfl⟩ dX5_seaAt_52
      | succ n ih =>
        intro i hi hR H locs ls hl hP hD hS
        refine lv_iload_n hx hb dX5_seaAt_19 rfl (lv_at hl 2 rfl) ?_
        refine lv_sipush (v := 2016) hx hb dX5_seaAt_20 (by decide) ?_
        refine lv_icmp_gt (tgt := 50) hx hb dX5_seaAt_23 (by decide) (fun h0 => absurd h0 (nI_nlt (a := 2016) (b := i) (by omega) (by decide))) (fun _ => ?_)
        refine lv_aload_n hx hb dX5_seaAt_26 rfl (lv_at hl 0 rfl) ?_
        refine ag_getX5 (v := .ref h) hx hb hG hown hK hP 0 0 rfl (by decide) k_217 rfl dX5_seaAt_27 ?_
        refine ag_getX1 (v := .int (f 0)) hx hb hG hown hK hP 19 0 rfl (by decide) k_54 rfl dX5_seaAt_30 ?_
        refine lv_iload_n hx hb dX5_seaAt_33 rfl (lv_at hl 2 rfl) ?_
        refine lv_iadd hx hb dX5_seaAt_34 ?_
        refine ag_callSi (As := [.int ((f 0) + (nI i))]) (rest := []) hx hb hml hown hG hK hN hA hP hD hS hl (ct_X5_seaLevel l D cI cC cL ((f 0) + (nI i))) fX5_seaLevel k_388 ag_cut_0 rfl (Nat.le_of_ble_eq_true rfl) ⟨Nat.le_of_ble_eq_true rfl, Nat.le_of_ble_eq_true rfl⟩ ⟨Nat.zero_le _, Nat.zero_le _⟩ dX5_seaAt_35 (fun r w1 H locs hw hP hD hS => ?_)
        obtain ⟨rfl, hw⟩ := hw
        subst hw
        have hP : va_P D vwCl [oX x0 h o t1 x1 y1 z1, oH x1 x2 hf, aL cL x2 (gS s0 s1 s2 s3), oL s0 s01 s02 s03 (sf 0), aI cI s01 3 (sse 0), aI cI s02 7 (sto 0), aI cI s03 60 (sre 0), oL s1 s11 s12 s13 (sf 1), aI cI s11 3 (sse 1), aI cI s12 7 (sto 1), aI cI s13 60 (sre 1), oL s2 s21 s22 s23 (sf 2), aI cI s21 3 (sse 2), aI cI s22 7 (sto 2), aI cI s23 60 (sre 2), oL s3 s31 s32 s33 (sf 3), aI cI s31 3 (sse 3), aI cI s32 7 (sto 3), aI cI s33 60 (sre 3), oL h h1 h2 h3 f, aI cI h1 3 se, aI cI h2 7 to, aI cI h3 60 re, oP z1 pf, oT y1 y2 tf, aC cC y2 60 ch, oL o o1 o2 o3 of, aI cI o1 3 ose, aI cI o2 7 oto, aI cI o3 60 ore, oK t1 kf] H := hP
        have hD : va_D A [oX x0 h o t1 x1 y1 z1, oH x1 x2 hf, aL cL x2 (gS s0 s1 s2 s3), oL s0 s01 s02 s03 (sf 0), aI cI s01 3 (sse 0), aI cI s02 7 (sto 0), aI cI s03 60 (sre 0), oL s1 s11 s12 s13 (sf 1), aI cI s11 3 (sse 1), aI cI s12 7 (sto 1), aI cI s13 60 (sre 1), oL s2 s21 s22 s23 (sf 2), aI cI s21 3 (sse 2), aI cI s22 7 (sto 2), aI cI s23 60 (sre 2), oL s3 s31 s32 s33 (sf 3), aI cI s31 3 (sse 3), aI cI s32 7 (sto 3), aI cI s33 60 (sre 3), oL h h1 h2 h3 f, aI cI h1 3 se, aI cI h2 7 to, aI cI h3 60 re, oP z1 pf, oT y1 y2 tf, aC cC y2 60 ch, oL o o1 o2 o3 of, aI cI o1 3 ose, aI cI o2 7 oto, aI cI o3 60 ore, oK t1 kf] := hD
        refine lv_iload_n hx hb dX5_seaAt_38 rfl (lv_at hl 1 rfl) ?_
        refine lv_icmp_lt (tgt := 44) hx hb dX5_seaAt_39 (by decide) (fun c_39 => ?_) (fun c_39 => ?_)
        · refine lv_iinc (v := nI (i + 1)) (lv' := [(2, .int (nI (i + 1))), (0, .ref x0), (1, .int p1)]) hx hb dX5_seaAt_44 hl (k := 2) rfl (nI_1 i) (by decide) rfl (fun ls hl => ?_)
          refine lv_goto (tgt := 19) hx hb dX5_seaAt_47 (by decide) ?_
          exact ih (i + 1) (by omega) ((show sa (f 0) p1 (n + 1) i = sa (f 0) p1 n (i + 1) by rw [sa, if_pos c_39]).symm.trans hR) H locs ls (lv_sub hl [1, 2, 0] rfl) hP hD hS
        · refine lv_iload_n hx hb dX5_seaAt_42 rfl (lv_at hl 2 rfl) ?_
          exact ag_iret [x0, x1, x2, s0, s01, s02, s03, s1, s11, s12, s13, s2, s21, s22, s23, s3, s31, s32, s33, h, h1, h2, h3, z1, y1, y2, o, o1, o2, o3, t1] hx hb hr rfl hlocks hP hS rfl rfl ⟨(by unfold sr_X5_seaAt; rw [if_neg c_4, if_pos c_11, ← hR]; rw [sa, if_neg c_39]), rfl⟩ dX5_seaAt_43
    · refine lv_ldc (v := (-1000000001)) hx hb hown (hG _ k_259) dX5_seaAt_14 ?_
      exact ag_iret [x0, x1, x2, s0, s01, s02, s03, s1, s11, s12, s13, s2, s21, s22, s23, s3, s31, s32, s33, h, h1, h2, h3, z1, y1, y2, o, o1, o2, o3, t1] hx hb hr rfl hlocks hP hS rfl rfl ⟨(by unfold sr_X5_seaAt; rw [if_neg c_4, if_neg c_11]), rfl⟩ dX5_seaAt_16
abbrev bsu : Type := Int32 × Int32 × (Nat → Int32) × (Nat → Int32) × (Nat → Int32) × (Nat → Int32) × (Nat → Int32)
def bestS (f se to re : Nat → Int32) (p2 : Int32) (N i : Nat) (x : bsu) : bsu :=
  (if (sr_X5_gainWith f se to re x.2.2.2.2.2.2 (nI i) N) ≤ x.2.1 then x.1 else nI i, if (sr_X5_gainWith f se to re x.2.2.2.2.2.2 (nI i) N) ≤ x.2.1 then x.2.1 else sr_X5_gainWith f se to re x.2.2.2.2.2.2 (nI i) N, sw26_X5_gainWith f se to re x.2.2.2.2.2.2 (nI i) N, sw27_X5_gainWith se, sw28_X5_gainWith f se to re x.2.2.2.2.2.2 (nI i) N, sw29_X5_gainWith f se to re x.2.2.2.2.2.2 (nI i) N, sw30_X5_gainWith f se to re x.2.2.2.2.2.2 (nI i) N)
def bestL (f se to re : Nat → Int32) (p2 : Int32) (N : Nat) : Nat → Nat → bsu → bsu
  | 0, _, x => x
  | n + 1, i, x => bestL f se to re p2 N n (i + 1) (bestS f se to re p2 N i x)
abbrev bestE (p1 p2 : Int32) : Prop := p1 < 1 ∨ 150 < p1 ∨ p2 < 0 ∨ ¬ p2 ≤ 1
def best0 (f se to re kf : Nat → Int32) (p2 : Int32) (N : Nat) : bsu := (0, sr_X5_gainWith f se to re kf 0 N, sw26_X5_gainWith f se to re kf 0 N, sw27_X5_gainWith se, sw28_X5_gainWith f se to re kf 0 N, sw29_X5_gainWith f se to re kf 0 N, sw30_X5_gainWith f se to re kf 0 N)
def bestX (f se to re of ose oto ore kf : Nat → Int32) (p1 p2 : Int32) : bsu := if bestE p1 p2 then (0, 0, of, ose, oto, ore, kf) else bestL f se to re p2 p1.toNatClampNeg 6 1 (best0 f se to re kf p2 p1.toNatClampNeg)

def sr_X5_best (f se to re of ose oto ore kf : Nat → Int32) (p1 p2 : Int32) : Int32 := if bestE p1 p2 then (-1000000001) else if p2 = 0 then (bestX f se to re of ose oto ore kf p1 p2).1 else (bestX f se to re of ose oto ore kf p1 p2).2.1
def gatesForS (f se to re : Nat → Int32) (p2 : Int32) (N i : Nat) (x : bsu) : bsu :=
  (if x.2.1 ≤ (ag_abs ((sr_X5_levelWith f se to re x.2.2.2.2.2.2 (nI i) N) - p2)) then x.1 else nI i, if x.2.1 ≤ (ag_abs ((sr_X5_levelWith f se to re x.2.2.2.2.2.2 (nI i) N) - p2)) then x.2.1 else ag_abs ((sr_X5_levelWith f se to re x.2.2.2.2.2.2 (nI i) N) - p2), sw26_X5_levelWith f se to re x.2.2.2.2.2.2 (nI i) N, sw27_X5_levelWith se, sw28_X5_levelWith f se to re x.2.2.2.2.2.2 (nI i) N, sw29_X5_levelWith f se to re x.2.2.2.2.2.2 (nI i) N, sw30_X5_levelWith f se to re x.2.2.2.2.2.2 (nI i) N)
def gatesForL (f se to re : Nat → Int32) (p2 : Int32) (N : Nat) : Nat → Nat → bsu → bsu
  | 0, _, x => x
  | n + 1, i, x => gatesForL f se to re p2 N n (i + 1) (gatesForS f se to re p2 N i x)
abbrev gatesForE (p1 p2 : Int32) : Prop := p1 < 1 ∨ 150 < p1 ∨ p2 < (-400) ∨ ¬ p2 ≤ 600
def gatesFor0 (f se to re kf : Nat → Int32) (p2 : Int32) (N : Nat) : bsu := (0, ag_abs ((sr_X5_levelWith f se to re kf 0 N) - p2), sw26_X5_levelWith f se to re kf 0 N, sw27_X5_levelWith se, sw28_X5_levelWith f se to re kf 0 N, sw29_X5_levelWith f se to re kf 0 N, sw30_X5_levelWith f se to re kf 0 N)
def gatesForX (f se to re of ose oto ore kf : Nat → Int32) (p1 p2 : Int32) : bsu := if gatesForE p1 p2 then (0, 0, of, ose, oto, ore, kf) else gatesForL f se to re p2 p1.toNatClampNeg 8 1 (gatesFor0 f se to re kf p2 p1.toNatClampNeg)

def sr_X5_gatesFor (f se to re of ose oto ore kf : Nat → Int32) (p1 p2 : Int32) : Int32 := if gatesForE p1 p2 then (-1000000001) else (gatesForX f se to re of ose oto ore kf p1 p2).1
def gv29_1_X5_best (f : Nat → Int32) (se : Nat → Int32) (to : Nat → Int32) (re : Nat → Int32) (kf : Nat → Int32) (p1 : Int32) : Nat → Int32 := sw26_X5_gainWith f se to re kf 0 p1.toNatClampNeg
def gv29_2_X5_best (se : Nat → Int32) : Nat → Int32 := sw27_X5_gainWith se
def gv29_3_X5_best (f : Nat → Int32) (se : Nat → Int32) (to : Nat → Int32) (re : Nat → Int32) (kf : Nat → Int32) (p1 : Int32) : Nat → Int32 := sw28_X5_gainWith f se to re kf 0 p1.toNatClampNeg
def gv29_4_X5_best (f : Nat → Int32) (se : Nat → Int32) (to : Nat → Int32) (re : Nat → Int32) (kf : Nat → Int32) (p1 : Int32) : Nat → Int32 := sw29_X5_gainWith f se to re kf 0 p1.toNatClampNeg
def gv29_5_X5_best (f : Nat → Int32) (se : Nat → Int32) (to : Nat → Int32) (re : Nat → Int32) (kf : Nat → Int32) (p1 : Int32) : Nat → Int32 := sw30_X5_gainWith f se to re kf 0 p1.toNatClampNeg
def gv48_6_X5_best (f : Nat → Int32) (se : Nat → Int32) (to : Nat → Int32) (re : Nat → Int32) (p1 : Int32) (i : Nat) (kfi : Nat → Int32) : Nat → Int32 := sw26_X5_gainWith f se to re kfi (nI i) p1.toNatClampNeg
def gv48_7_X5_best (se : Nat → Int32) : Nat → Int32 := sw27_X5_gainWith se
def gv48_8_X5_best (f : Nat → Int32) (se : Nat → Int32) (to : Nat → Int32) (re : Nat → Int32) (p1 : Int32) (i : Nat) (kfi : Nat → Int32) : Nat → Int32 := sw28_X5_gainWith f se to re kfi (nI i) p1.toNatClampNeg
def gv48_9_X5_best (f : Nat → Int32) (se : Nat → Int32) (to : Nat → Int32) (re : Nat → Int32) (p1 : Int32) (i : Nat) (kfi : Nat → Int32) : Nat → Int32 := sw29_X5_gainWith f se to re kfi (nI i) p1.toNatClampNeg
def gv48_10_X5_best (f : Nat → Int32) (se : Nat → Int32) (to : Nat → Int32) (re : Nat → Int32) (p1 : Int32) (i : Nat) (kfi : Nat → Int32) : Nat → Int32 := sw30_X5_gainWith f se to re kfi (nI i) p1.toNatClampNeg
def l67_3_X5_best (f : Nat → Int32) (se : Nat → Int32) (to : Nat → Int32) (re : Nat → Int32) (p1 : Int32) (i : Nat) (bm : Int32) (bg : Int32) (kfi : Nat → Int32) : Int32 := if (sr_X5_gainWith f se to re kfi (nI i) p1.toNatClampNeg) ≤ bg then bm else nI i
def l67_4_X5_best (f : Nat → Int32) (se : Nat → Int32) (to : Nat → Int32) (re : Nat → Int32) (p1 : Int32) (i : Nat) (bg : Int32) (kfi : Nat → Int32) : Int32 := if (sr_X5_gainWith f se to re kfi (nI i) p1.toNatClampNeg) ≤ bg then bg else sr_X5_gainWith f se to re kfi (nI i) p1.toNatClampNeg
abbrev po_X5_best (cI cC cL : ClassId) (x0 h o t1 x1 y1 z1 x2 s0 s01 s02 s03 s1 s11 s12 s13 s2 s21 s22 s23 s3 s31 s32 s33 h1 h2 h3 y2 o1 o2 o3 : Nat) (hf f se to re pf tf ch of ose oto ore kf : Nat → Int32) (p1 : Int32) (p2 : Int32) (sf : Nat → Nat → Int32) (sse : Nat → Nat → Int32) (sto : Nat → Nat → Int32) (sre : Nat → Nat → Int32) : Int32 → va_W → Prop := fun r w' => sr_X5_best f se to re of ose oto ore kf p1 p2 = r ∧ [oX x0 h o t1 x1 y1 z1, oH x1 x2 hf, aL cL x2 (gS s0 s1 s2 s3), oL s0 s01 s02 s03 (sf 0), aI cI s01 3 (sse 0), aI cI s02 7 (sto 0), aI cI s03 60 (sre 0), oL s1 s11 s12 s13 (sf 1), aI cI s11 3 (sse 1), aI cI s12 7 (sto 1), aI cI s13 60 (sre 1), oL s2 s21 s22 s23 (sf 2), aI cI s21 3 (sse 2), aI cI s22 7 (sto 2), aI cI s23 60 (sre 2), oL s3 s31 s32 s33 (sf 3), aI cI s31 3 (sse 3), aI cI s32 7 (sto 3), aI cI s33 60 (sre 3), oL h h1 h2 h3 f, aI cI h1 3 se, aI cI h2 7 to, aI cI h3 60 re, oP z1 pf, oT y1 y2 tf, aC cC y2 60 ch, oL o o1 o2 o3 ((bestX f se to re of ose oto ore kf p1 p2).2.2.1), aI cI o1 3 ((bestX f se to re of ose oto ore kf p1 p2).2.2.2.1), aI cI o2 7 ((bestX f se to re of ose oto ore kf p1 p2).2.2.2.2.1), aI cI o3 60 ((bestX f se to re of ose oto ore kf p1 p2).2.2.2.2.2.1), oK t1 ((bestX f se to re of ose oto ore kf p1 p2).2.2.2.2.2.2)] = w'
set_option maxHeartbeats 4000000 in
set_option maxRecDepth 100000 in
theorem ct_X5_best (l : Launch) (D : va_G) (cI cC cL : ClassId) (x0 h o t1 x1 y1 z1 x2 s0 s01 s02 s03 s1 s11 s12 s13 s2 s21 s22 s23 s3 s31 s32 s33 h1 h2 h3 y2 o1 o2 o3 : Nat) (hf f se to re pf tf ch of ose oto ore kf : Nat → Int32) (p1 : Int32) (p2 : Int32) (sf : Nat → Nat → Int32) (sse : Nat → Nat → Int32) (sto : Nat → Nat → Int32) (sre : Nat → Nat → Int32) : ag_MI l yX5_best cX5_best 7 .int 5 110 D cI cC cL [.ref x0, .int p1, .int p2] [oX x0 h o t1 x1 y1 z1, oH x1 x2 hf, aL cL x2 (gS s0 s1 s2 s3), oL s0 s01 s02 s03 (sf 0), aI cI s01 3 (sse 0), aI cI s02 7 (sto 0), aI cI s03 60 (sre 0), oL s1 s11 s12 s13 (sf 1), aI cI s11 3 (sse 1), aI cI s12 7 (sto 1), aI cI s13 60 (sre 1), oL s2 s21 s22 s23 (sf 2), aI cI s21 3 (sse 2), aI cI s22 7 (sto 2), aI cI s23 60 (sre 2), oL s3 s31 s32 s33 (sf 3), aI cI s31 3 (sse 3), aI cI s32 7 (sto 3), aI cI s33 60 (sre 3), oL h h1 h2 h3 f, aI cI h1 3 se, aI cI h2 7 to, aI cI h3 60 re, oP z1 pf, oT y1 y2 tf, aC cC y2 60 ch, oL o o1 o2 o3 of, aI cI o1 3 ose, aI cI o2 7 oto, aI cI o3 60 ore, oK t1 kf] (po_X5_best cI cC cL x0 h o t1 x1 y1 z1 x2 s0 s01 s02 s03 s1 s11 s12 s13 s2 s21 s22 s23 s3 s31 s32 s33 h1 h2 h3 y2 o1 o2 o3 hf f se to re pf tf ch of ose oto ore kf p1 p2 sf sse sto sre) := by
  refine ag_MI.of (plainFor_of_name (by decide)) (Nat.le_of_ble_eq_true rfl) ?_
  intro p e s m below meth c hx hb hr hlocks hml hown hmn hG hK A hN hA H locs hP hD hS ls hl
  have hl : lv_has ls 7 [(0, .ref x0), (1, .int p1), (2, .int p2)] := hl
  refine lv_iload_n hx hb dX5_best_0 rfl (lv_at hl 1 rfl) ?_
  refine lv_iconst (v := 1) hx hb dX5_best_1 (by decide) ?_
  refine lv_icmp_lt (tgt := 21) hx hb dX5_best_2 (by decide) (fun c_2 => ?_) (fun c_2 => ?_)
  · refine lv_ldc (v := (-1000000001)) hx hb hown (hG _ k_259) dX5_best_21 ?_
    exact ag_iret [x0, x1, x2, s0, s01, s02, s03, s1, s11, s12, s13, s2, s21, s22, s23, s3, s31, s32, s33, h, h1, h2, h3, z1, y1, y2, o, o1, o2, o3, t1] hx hb hr rfl hlocks hP hS rfl rfl ⟨(by unfold sr_X5_best; rw [if_pos (Or.inl c_2)]), (by show _ = _; unfold bestX; simp only [if_pos (Or.inl c_2)])⟩ dX5_best_23
  · refine lv_iload_n hx hb dX5_best_5 rfl (lv_at hl 1 rfl) ?_
    refine lv_sipush (v := 150) hx hb dX5_best_6 (by decide) ?_
    refine lv_icmp_gt (tgt := 21) hx hb dX5_best_9 (by decide) (fun c_9 => ?_) (fun c_9 => ?_)
    · refine lv_ldc (v := (-1000000001)) hx hb hown (hG _ k_259) dX5_best_21 ?_
      exact ag_iret [x0, x1, x2, s0, s01, s02, s03, s1, s11, s12, s13, s2, s21, s22, s23, s3, s31, s32, s33, h, h1, h2, h3, z1, y1, y2, o, o1, o2, o3, t1] hx hb hr rfl hlocks hP hS rfl rfl ⟨(by unfold sr_X5_best; rw [if_pos (Or.inr (Or.inl c_9))]), (by show _ = _; unfold bestX; simp only [if_pos (Or.inr (Or.inl c_9))])⟩ dX5_best_23
    · refine lv_iload_n hx hb dX5_best_12 rfl (lv_at hl 2 rfl) ?_
      refine lv_if_lt (tgt := 21) hx hb dX5_best_13 (by decide) (fun c_13 => ?_) (fun c_13 => ?_)
      · refine lv_ldc (v := (-1000000001)) hx hb hown (hG _ k_259) dX5_best_21 ?_
        exact ag_iret [x0, x1, x2, s0, s01, s02, s03, s1, s11, s12, s13, s2, s21, s22, s23, s3, s31, s32, s33, h, h1, h2, h3, z1, y1, y2, o, o1, o2, o3, t1] hx hb hr rfl hlocks hP hS rfl rfl ⟨(by unfold sr_X5_best; rw [if_pos (Or.inr (Or.inr (Or.inl c_13)))]), (by show _ = _; unfold bestX; simp only [if_pos (Or.inr (Or.inr (Or.inl c_13)))])⟩ dX5_best_23
      · refine lv_iload_n hx hb dX5_best_16 rfl (lv_at hl 2 rfl) ?_
        refine lv_iconst (v := 1) hx hb dX5_best_17 (by decide) ?_
        refine lv_icmp_le (tgt := 24) hx hb dX5_best_18 (by decide) (fun c_18 => ?_) (fun c_18 => ?_)
        · refine lv_iconst (v := 0) hx hb dX5_best_24 (by decide) ?_
          refine lv_istore_n (lv' := [(3, .int 0), (0, .ref x0), (1, .int p1), (2, .int p2)]) hx hb dX5_best_25 rfl hl (by decide) rfl (fun ls hl => ?_)
          refine lv_aload_n hx hb dX5_best_26 rfl (lv_at hl 1 rfl) ?_
          refine lv_iconst (v := 0) hx hb dX5_best_27 (by decide) ?_
          refine lv_iload_n hx hb dX5_best_28 rfl (lv_at hl 2 rfl) ?_
          refine ag_callVi (As := [.int 0, .int p1]) (rest := []) hx hb hml hown hG hK hN hA hP hD hS hl (ct_X5_gainWith l D cI cC cL x0 h o t1 x1 y1 z1 x2 s0 s01 s02 s03 s1 s11 s12 s13 s2 s21 s22 s23 s3 s31 s32 s33 h1 h2 h3 y2 o1 o2 o3 hf f se to re pf tf ch of ose oto ore kf 0 p1 sf sse sto sre p1.toNatClampNeg (ag_pos c_2)) fX5_gainWith k_432 ag_cut_all (q0 := 0) rfl rfl rfl rfl (Nat.le_of_ble_eq_true rfl) ⟨Nat.le_of_ble_eq_true rfl, Nat.le_of_ble_eq_true rfl⟩ ⟨Nat.zero_le _, Nat.zero_le _⟩ dX5_best_29 (fun r w1 H locs hw hP hD hS => ?_)
          obtain ⟨rfl, hw⟩ := hw
          generalize eg29_1 : sw26_X5_gainWith f se to re kf 0 p1.toNatClampNeg = g29_1 at hw
          replace eg29_1 : gv29_1_X5_best f se to re kf p1 = g29_1 := (by rw [← eg29_1]; rfl)
          generalize eg29_2 : sw27_X5_gainWith se = g29_2 at hw
          replace eg29_2 : gv29_2_X5_best se = g29_2 := (by rw [← eg29_2]; rfl)
          generalize eg29_3 : sw28_X5_gainWith f se to re kf 0 p1.toNatClampNeg = g29_3 at hw
          replace eg29_3 : gv29_3_X5_best f se to re kf p1 = g29_3 := (by rw [← eg29_3]; rfl)
          generalize eg29_4 : sw29_X5_gainWith f se to re kf 0 p1.toNatClampNeg = g29_4 at hw
          replace eg29_4 : gv29_4_X5_best f se to re kf p1 = g29_4 := (by rw [← eg29_4]; rfl)
          generalize eg29_5 : sw30_X5_gainWith f se to re kf 0 p1.toNatClampNeg = g29_5 at hw
          replace eg29_5 : gv29_5_X5_best f se to re kf p1 = g29_5 := (by rw [← eg29_5]; rfl)
          subst hw
          have hP : va_P D vwCl [oX x0 h o t1 x1 y1 z1, oH x1 x2 hf, aL cL x2 (gS s0 s1 s2 s3), oL s0 s01 s02 s03 (sf 0), aI cI s01 3 (sse 0), aI cI s02 7 (sto 0), aI cI s03 60 (sre 0), oL s1 s11 s12 s13 (sf 1), aI cI s11 3 (sse 1), aI cI s12 7 (sto 1), aI cI s13 60 (sre 1), oL s2 s21 s22 s23 (sf 2), aI cI s21 3 (sse 2), aI cI s22 7 (sto 2), aI cI s23 60 (sre 2), oL s3 s31 s32 s33 (sf 3), aI cI s31 3 (sse 3), aI cI s32 7 (sto 3), aI cI s33 60 (sre 3), oL h h1 h2 h3 f, aI cI h1 3 se, aI cI h2 7 to, aI cI h3 60 re, oP z1 pf, oT y1 y2 tf, aC cC y2 60 ch, oL o o1 o2 o3 g29_1, aI cI o1 3 g29_2, aI cI o2 7 g29_3, aI cI o3 60 g29_4, oK t1 g29_5] H := hP
          have hD : va_D A [oX x0 h o t1 x1 y1 z1, oH x1 x2 hf, aL cL x2 (gS s0 s1 s2 s3), oL s0 s01 s02 s03 (sf 0), aI cI s01 3 (sse 0), aI cI s02 7 (sto 0), aI cI s03 60 (sre 0), oL s1 s11 s12 s13 (sf 1), aI cI s11 3 (sse 1), aI cI s12 7 (sto 1), aI cI s13 60 (sre 1), oL s2 s21 s22 s23 (sf 2), aI cI s21 3 (sse 2), aI cI s22 7 (sto 2), aI cI s23 60 (sre 2), oL s3 s31 s32 s33 (sf 3), aI cI s31 3 (sse 3), aI cI s32 7 (sto 3), aI cI s33 60 (sre 3), oL h h1 h2 h3 f, aI cI h1 3 se, aI cI h2 7 to, aI cI h3 60 re, oP z1 pf, oT y1 y2 tf, aC cC y2 60 ch, oL o o1 o2 o3 g29_1, aI cI o1 3 g29_2, aI cI o2 7 g29_3, aI cI o3 60 g29_4, oK t1 g29_5] := hD
          refine lv_istore (lv' := [(4, .int (sr_X5_gainWith f se to re kf 0 p1.toNatClampNeg)), (3, .int 0), (0, .ref x0), (1, .int p1), (2, .int p2)]) hx hb dX5_best_32 hl (by decide) rfl (fun ls hl => ?_)
          refine lv_iconst (v := 1) hx hb dX5_best_34 (by decide) ?_
          refine lv_istore (lv' := [(5, .int 1), (4, .int (sr_X5_gainWith f se to re kf 0 p1.toNatClampNeg)), (3, .int 0), (0, .ref x0), (1, .int p1), (2, .int p2)]) hx hb dX5_best_35 hl (by decide) rfl (fun ls hl => ?_)
          revert hP; revert hD; revert hS; revert hl
          subst eg29_5
          subst eg29_4
          subst eg29_3
          subst eg29_2
          subst eg29_1
          intro hl hS hD hP
          suffices L37 : ∀ (n : Nat) (i : Nat) (bm bg : Int32) (ofi osi oti ori kfi : Nat → Int32), (hi : i + n = 7) → (hR : bestL f se to re p2 p1.toNatClampNeg n i (bm, bg, ofi, osi, oti, ori, kfi) = bestL f se to re p2 p1.toNatClampNeg 6 1 (best0 f se to re kf p2 p1.toNatClampNeg)) → ∀ (H : Heap) (locs : List Loc) (ls : Array Slot), lv_has ls 7 [(0, .ref x0), (1, .int p1), (2, .int p2), (3, .int bm), (4, .int bg), (5, .int (nI i))] → va_P D vwCl [oX x0 h o t1 x1 y1 z1, oH x1 x2 hf, aL cL x2 (gS s0 s1 s2 s3), oL s0 s01 s02 s03 (sf 0), aI cI s01 3 (sse 0), aI cI s02 7 (sto 0), aI cI s03 60 (sre 0), oL s1 s11 s12 s13 (sf 1), aI cI s11 3 (sse 1), aI cI s12 7 (sto 1), aI cI s13 60 (sre 1), oL s2 s21 s22 s23 (sf 2), aI cI s21 3 (sse 2), aI cI s22 7 (sto 2), aI cI s23 60 (sre 2), oL s3 s31 s32 s33 (sf 3), aI cI s31 3 (sse 3), aI cI s32 7 (sto 3), aI cI s33 60 (sre 3), oL h h1 h2 h3 f, aI cI h1 3 se, aI cI h2 7 to, aI cI h3 60 re, oP z1 pf, oT y1 y2 tf, aC cC y2 60 ch, oL o o1 o2 o3 ofi, aI cI o1 3 osi, aI cI o2 7 oti, aI cI o3 60 ori, oK t1 kfi] H → va_D A [oX x0 h o t1 x1 y1 z1, oH x1 x2 hf, aL cL x2 (gS s0 s1 s2 s3), oL s0 s01 s02 s03 (sf 0), aI cI s01 3 (sse 0), aI cI s02 7 (sto 0), aI cI s03 60 (sre 0), oL s1 s11 s12 s13 (sf 1), aI cI s11 3 (sse 1), aI cI s12 7 (sto 1), aI cI s13 60 (sre 1), oL s2 s21 s22 s23 (sf 2), aI cI s21 3 (sse 2), aI cI s22 7 (sto 2), aI cI s23 60 (sre 2), oL s3 s31 s32 s33 (sf 3), aI cI s31 3 (sse 3), aI cI s32 7 (sto 3), aI cI s33 60 (sre 3), oL h h1 h2 h3 f, aI cI h1 3 se, aI cI h2 7 to, aI cI h3 60 re, oP z1 pf, oT y1 y2 tf, aC cC y2 60 ch, oL o o1 o2 o3 ofi, aI cI o1 3 osi, aI cI o2 7 oti, aI cI o3 60 ori, oK t1 kfi] → va_S A s.heap H locs → W p l e (ag_rm 5 110) s m ([.ref x0, .int p1, .int p2] : List Value).toArray below meth c H locs 0 0 (MQ below (va_Qi (po_X5_best cI cC cL x0 h o t1 x1 y1 z1 x2 s0 s01 s02 s03 s1 s11 s12 s13 s2 s21 s22 s23 s3 s31 s32 s33 h1 h2 h3 y2 o1 o2 o3 hf f se to re pf tf ch of ose oto ore kf p1 p2 sf sse sto sre) (ag_Out D [oX x0 h o t1 x1 y1 z1, oH x1 x2 hf, aL cL x2 (gS s0 s1 s2 s3), oL s0 s01 s02 s03 (sf 0), aI cI s01 3 (sse 0), aI cI s02 7 (sto 0), aI cI s03 60 (sre 0), oL s1 s11 s12 s13 (sf 1), aI cI s11 3 (sse 1), aI cI s12 7 (sto 1), aI cI s13 60 (sre 1), oL s2 s21 s22 s23 (sf 2), aI cI s21 3 (sse 2), aI cI s22 7 (sto 2), aI cI s23 60 (sre 2), oL s3 s31 s32 s33 (sf 3), aI cI s31 3 (sse 3), aI cI s32 7 (sto 3), aI cI s33 60 (sre 3), oL h h1 h2 h3 f, aI cI h1 3 se, aI cI h2 7 to, aI cI h3 60 re, oP z1 pf, oT y1 y2 tf, aC cC y2 60 ch, oL o o1 o2 o3 of, aI cI o1 3 ose, aI cI o2 7 oto, aI cI o3 60 ore, oK t1 kf]) A) ([.ref x0, .int p1, .int p2] : List Value).toArray s 0 0 A) (F0 m 37 ls []) from L37 6 1 0 (sr_X5_gainWith f se to re kf 0 p1.toNatClampNeg) (gv29_1_X5_best f se to re kf p1) (gv29_2_X5_best se) (gv29_3_X5_best f se to re kf p1) (gv29_4_X5_best f se to re kf p1) (gv29_5_X5_best f se to re kf p1) (by omega) rfl H locs ls (lv_sub hl [3, 4, 5, 2, 1, 0] rfl) hP hD hS
          intro n
          induction n with
          | zero =>
            intro i bm bg ofi osi oti ori kfi hi hR H locs ls hl hP hD hS
            refine lv_iload hx hb dX5_best_37 (lv_at hl 5 rfl) ?_
            refine lv_bipush (v := 6) hx hb dX5_best_39 (by decide) ?_
            refine lv_icmp_gt (tgt := 73) hx hb dX5_best_41 (by decide) (fun _ => ?_) (fun h0 => absurd (nI_lt (a := 6) (by omega) (by omega)) h0)
            refine lv_iload_n hx hb dX5_best_73 rfl (lv_at hl 2 rfl) ?_
            refine lv_if_ne (tgt := 81) hx hb dX5_best_74 (by decide) (fun c_74 => ?_) (fun c_74 => ?_)
            · refine lv_iload hx hb dX5_best_81 (lv_at hl 4 rfl) ?_
              exact ag_iret [x0, x1, x2, s0, s01, s02, s03, s1, s11, s12, s13, s2, s21, s22, s23, s3, s31, s32, s33, h, h1, h2, h3, z1, y1, y2, o, o1, o2, o3, t1] hx hb hr rfl hlocks hP hS rfl rfl ⟨(by unfold sr_X5_best bestX; rw [if_neg (fun h => h.elim c_2 (fun h => h.elim c_9 (fun h => h.elim c_13 (fun h => h c_18)))), if_neg c_74, if_neg (fun h => h.elim c_2 (fun h => h.elim c_9 (fun h => h.elim c_13 (fun h => h c_18)))), ← hR]; rfl), (by show _ = _; unfold bestX; rw [if_neg (fun h => h.elim c_2 (fun h => h.elim c_9 (fun h => h.elim c_13 (fun h => h c_18)))), ← hR]; rfl)⟩ dX5_best_83
            · refine lv_iload_n hx hb dX5_best_77 rfl (lv_at hl 3 rfl) ?_
              refine lv_goto (tgt := 83) hx hb dX5_best_78 (by decide) ?_
              exact ag_iret [x0, x1, x2, s0, s01, s02, s03, s1, s11, s12, s13, s2, s21, s22, s23, s3, s31, s32, s33, h, h1, h2, h3, z1, y1, y2, o, o1, o2, o3, t1] hx hb hr rfl hlocks hP hS rfl rfl ⟨(by unfold sr_X5_best bestX; rw [if_neg (fun h => h.elim c_2 (fun h => h.elim c_9 (fun h => h.elim c_13 (fun h => h c_18)))), if_pos c_74, if_neg (fun h => h.elim c_2 (fun h => h.elim c_9 (fun h => h.elim c_13 (fun h => h c_18)))), ← hR]; rfl), (by show _ = _; unfold bestX; rw [if_neg (fun h => h.elim c_2 (fun h => h.elim c_9 (fun h => h.elim c_13 (fun h => h c_18)))), ← hR]; rfl)⟩ dX5_best_83
          | succ n ih =>
            intro i bm bg ofi osi oti ori kfi hi hR H locs ls hl hP hD hS
            refine lv_iload hx hb dX5_best_37 (lv_at hl 5 rfl) ?_
            refine lv_bipush (v := 6) hx hb dX5_best_39 (by decide) ?_
            refine lv_icmp_gt (tgt := 73) hx hb dX5_best_41 (by decide) (fun h0 => absurd h0 (nI_nlt (a := 6) (b := i) (by omega) (by decide))) (fun _ => ?_)
            refine lv_aload_n hx hb dX5_best_44 rfl (lv_at hl 0 rfl) ?_
            refine lv_iload hx hb dX5_best_45 (lv_at hl 5 rfl) ?_
            refine lv_iload_n hx hb dX5_best_47 rfl (lv_at hl 1 rfl) ?_
            refine ag_callVi (As := [.int (nI i), .int p1]) (rest := []) hx hb hml hown hG hK hN hA hP hD hS hl (ct_X5_gainWith l D cI cC cL x0 h o t1 x1 y1 z1 x2 s0 s01 s02 s03 s1 s11 s12 s13 s2 s21 s22 s23 s3 s31 s32 s33 h1 h2 h3 y2 o1 o2 o3 hf f se to re pf tf ch ofi osi oti ori kfi (nI i) p1 sf sse sto sre p1.toNatClampNeg (ag_pos c_2)) fX5_gainWith k_432 ag_cut_all (q0 := 0) rfl rfl rfl rfl (Nat.le_of_ble_eq_true rfl) ⟨Nat.le_of_ble_eq_true rfl, Nat.le_of_ble_eq_true rfl⟩ ⟨Nat.zero_le _, Nat.zero_le _⟩ dX5_best_48 (fun r w1 H locs hw hP hD hS => ?_)
            obtain ⟨rfl, hw⟩ := hw
            generalize eg48_6 : sw26_X5_gainWith f se to re kfi (nI i) p1.toNatClampNeg = g48_6 at hw
            replace eg48_6 : gv48_6_X5_best f se to re p1 i kfi = g48_6 := (by rw [← eg48_6]; rfl)
            generalize eg48_7 : sw27_X5_gainWith se = g48_7 at hw
            replace eg48_7 : gv48_7_X5_best se = g48_7 := (by rw [← eg48_7]; rfl)
            generalize eg48_8 : sw28_X5_gainWith f se to re kfi (nI i) p1.toNatClampNeg = g48_8 at hw
            replace eg48_8 : gv48_8_X5_best f se to re p1 i kfi = g48_8 := (by rw [← eg48_8]; rfl)
            generalize eg48_9 : sw29_X5_gainWith f se to re kfi (nI i) p1.toNatClampNeg = g48_9 at hw
            replace eg48_9 : gv48_9_X5_best f se to re p1 i kfi = g48_9 := (by rw [← eg48_9]; rfl)
            generalize eg48_10 : sw30_X5_gainWith f se to re kfi (nI i) p1.toNatClampNeg = g48_10 at hw
            replace eg48_10 : gv48_10_X5_best f se to re p1 i kfi = g48_10 := (by rw [← eg48_10]; rfl)
            subst hw
            have hP : va_P D vwCl [oX x0 h o t1 x1 y1 z1, oH x1 x2 hf, aL cL x2 (gS s0 s1 s2 s3), oL s0 s01 s02 s03 (sf 0), aI cI s01 3 (sse 0), aI cI s02 7 (sto 0), aI cI s03 60 (sre 0), oL s1 s11 s12 s13 (sf 1), aI cI s11 3 (sse 1), aI cI s12 7 (sto 1), aI cI s13 60 (sre 1), oL s2 s21 s22 s23 (sf 2), aI cI s21 3 (sse 2), aI cI s22 7 (sto 2), aI cI s23 60 (sre 2), oL s3 s31 s32 s33 (sf 3), aI cI s31 3 (sse 3), aI cI s32 7 (sto 3), aI cI s33 60 (sre 3), oL h h1 h2 h3 f, aI cI h1 3 se, aI cI h2 7 to, aI cI h3 60 re, oP z1 pf, oT y1 y2 tf, aC cC y2 60 ch, oL o o1 o2 o3 g48_6, aI cI o1 3 g48_7, aI cI o2 7 g48_8, aI cI o3 60 g48_9, oK t1 g48_10] H := hP
            have hD : va_D A [oX x0 h o t1 x1 y1 z1, oH x1 x2 hf, aL cL x2 (gS s0 s1 s2 s3), oL s0 s01 s02 s03 (sf 0), aI cI s01 3 (sse 0), aI cI s02 7 (sto 0), aI cI s03 60 (sre 0), oL s1 s11 s12 s13 (sf 1), aI cI s11 3 (sse 1), aI cI s12 7 (sto 1), aI cI s13 60 (sre 1), oL s2 s21 s22 s23 (sf 2), aI cI s21 3 (sse 2), aI cI s22 7 (sto 2), aI cI s23 60 (sre 2), oL s3 s31 s32 s33 (sf 3), aI cI s31 3 (sse 3), aI cI s32 7 (sto 3), aI cI s33 60 (sre 3), oL h h1 h2 h3 f, aI cI h1 3 se, aI cI h2 7 to, aI cI h3 60 re, oP z1 pf, oT y1 y2 tf, aC cC y2 60 ch, oL o o1 o2 o3 g48_6, aI cI o1 3 g48_7, aI cI o2 7 g48_8, aI cI o3 60 g48_9, oK t1 g48_10] := hD
            refine lv_istore (lv' := [(6, .int (sr_X5_gainWith f se to re kfi (nI i) p1.toNatClampNeg)), (0, .ref x0), (1, .int p1), (2, .int p2), (3, .int bm), (4, .int bg), (5, .int (nI i))]) hx hb dX5_best_51 hl (by decide) rfl (fun ls hl => ?_)
            refine lv_iload hx hb dX5_best_53 (lv_at hl 0 rfl) ?_
            refine lv_iload hx hb dX5_best_55 (lv_at hl 5 rfl) ?_
            have J67 : ∀ (ls : Array Slot), lv_has ls 7 [(0, .ref x0), (1, .int p1), (2, .int p2), (3, .int (l67_3_X5_best f se to re p1 i bm bg kfi)), (4, .int (l67_4_X5_best f se to re p1 i bg kfi)), (5, .int (nI i)), (6, .int (sr_X5_gainWith f se to re kfi (nI i) p1.toNatClampNeg))] → W p l e (ag_rm 5 110) s m ([.ref x0, .int p1, .int p2] : List Value).toArray below meth c H locs 0 0 (MQ below (va_Qi (po_X5_best cI cC cL x0 h o t1 x1 y1 z1 x2 s0 s01 s02 s03 s1 s11 s12 s13 s2 s21 s22 s23 s3 s31 s32 s33 h1 h2 h3 y2 o1 o2 o3 hf f se to re pf tf ch of ose oto ore kf p1 p2 sf sse sto sre) (ag_Out D [oX x0 h o t1 x1 y1 z1, oH x1 x2 hf, aL cL x2 (gS s0 s1 s2 s3), oL s0 s01 s02 s03 (sf 0), aI cI s01 3 (sse 0), aI cI s02 7 (sto 0), aI cI s03 60 (sre 0), oL s1 s11 s12 s13 (sf 1), aI cI s11 3 (sse 1), aI cI s12 7 (sto 1), aI cI s13 60 (sre 1), oL s2 s21 s22 s23 (sf 2), aI cI s21 3 (sse 2), aI cI s22 7 (sto 2), aI cI s23 60 (sre 2), oL s3 s31 s32 s33 (sf 3), aI cI s31 3 (sse 3), aI cI s32 7 (sto 3), aI cI s33 60 (sre 3), oL h h1 h2 h3 f, aI cI h1 3 se, aI cI h2 7 to, aI cI h3 60 re, oP z1 pf, oT y1 y2 tf, aC cC y2 60 ch, oL o o1 o2 o3 of, aI cI o1 3 ose, aI cI o2 7 oto, aI cI o3 60 ore, oK t1 kf]) A) ([.ref x0, .int p1, .int p2] : List Value).toArray s 0 0 A) (F0 m 67 ls []) := by
              intro ls hl
              refine lv_iinc (v := nI (i + 1)) (lv' := [(5, .int (nI (i + 1))), (0, .ref x0), (1, .int p1), (2, .int p2), (3, .int (l67_3_X5_best f se to re p1 i bm bg kfi)), (4, .int (l67_4_X5_best f se to re p1 i bg kfi)), (6, .int (sr_X5_gainWith f se to re kfi (nI i) p1.toNatClampNeg))]) hx hb dX5_best_67 hl (k := 5) rfl (nI_1 i) (by decide) rfl (fun ls hl => ?_)
              refine lv_goto (tgt := 37) hx hb dX5_best_70 (by decide) ?_
              revert hP; revert hD; revert hS; revert hl
              subst eg48_10
              subst eg48_9
              subst eg48_8
              subst eg48_7
              subst eg48_6
              intro hl hS hD hP
              exact ih (i + 1) (l67_3_X5_best f se to re p1 i bm bg kfi) (l67_4_X5_best f se to re p1 i bg kfi) (gv48_6_X5_best f se to re p1 i kfi) (gv48_7_X5_best se) (gv48_8_X5_best f se to re p1 i kfi) (gv48_9_X5_best f se to re p1 i kfi) (gv48_10_X5_best f se to re p1 i kfi) (by omega) hR H locs ls (lv_sub hl [1, 2, 3, 4, 5, 0] rfl) hP hD hS
            refine lv_icmp_le (tgt := 67) hx hb dX5_best_57 (by decide) (fun c_57 => ?_) (fun c_57 => ?_)
            · revert hP; revert hD; revert hS; revert hl
              subst eg48_10
              subst eg48_9
              subst eg48_8
              subst eg48_7
              subst eg48_6
              intro hl hS hD hP
              simp only [l67_3_X5_best, l67_4_X5_best, if_pos c_57] at J67
              exact J67 _ (lv_sub hl [1, 2, 3, 4, 5, 6, 0] rfl)
            · refine lv_iload hx hb dX5_best_60 (lv_at hl 6 rfl) ?_
              refine lv_istore_n (lv' := [(3, .int (nI i)), (6, .int (sr_X5_gainWith f se to re kfi (nI i) p1.toNatClampNeg)), (0, .ref x0), (1, .int p1), (2, .int p2), (4, .int bg), (5, .int (nI i))]) hx hb dX5_best_62 rfl hl (by decide) rfl (fun ls hl => ?_)
              refine lv_iload hx hb dX5_best_63 (lv_at hl 1 rfl) ?_
              refine lv_istore (lv' := [(4, .int (sr_X5_gainWith f se to re kfi (nI i) p1.toNatClampNeg)), (3, .int (nI i)), (6, .int (sr_X5_gainWith f se to re kfi (nI i) p1.toNatClampNeg)), (0, .ref x0), (1, .int p1), (2, .int p2), (5, .int (nI i))]) hx hb dX5_best_65 hl (by decide) rfl (fun ls hl => ?_)
              revert hP; revert hD; revert hS; revert hl
              subst eg48_10
              subst eg48_9
              subst eg48_8
              subst eg48_7
              subst eg48_6
              intro hl hS hD hP
              simp only [l67_3_X5_best, l67_4_X5_best, if_neg c_57] at J67
              exact J67 _ (lv_sub hl [3, 4, 5, 1, 0, 6, 2] rfl)
        · refine lv_ldc (v := (-1000000001)) hx hb hown (hG _ k_259) dX5_best_21 ?_
          exact ag_iret [x0, x1, x2, s0, s01, s02, s03, s1, s11, s12, s13, s2, s21, s22, s23, s3, s31, s32, s33, h, h1, h2, h3, z1, y1, y2, o, o1, o2, o3, t1] hx hb hr rfl hlocks hP hS rfl rfl ⟨(by unfold sr_X5_best; rw [if_pos (Or.inr (Or.inr (Or.inr c_18)))]), (by show _ = _; unfold bestX; simp only [if_pos (Or.inr (Or.inr (Or.inr c_18)))])⟩ dX5_best_23
def gv34_1_X5_gatesFor (f : Nat → Int32) (se : Nat → Int32) (to : Nat → Int32) (re : Nat → Int32) (kf : Nat → Int32) (p1 : Int32) : Nat → Int32 := sw26_X5_levelWith f se to re kf 0 p1.toNatClampNeg
def gv34_2_X5_gatesFor (se : Nat → Int32) : Nat → Int32 := sw27_X5_levelWith se
def gv34_3_X5_gatesFor (f : Nat → Int32) (se : Nat → Int32) (to : Nat → Int32) (re : Nat → Int32) (kf : Nat → Int32) (p1 : Int32) : Nat → Int32 := sw28_X5_levelWith f se to re kf 0 p1.toNatClampNeg
def gv34_4_X5_gatesFor (f : Nat → Int32) (se : Nat → Int32) (to : Nat → Int32) (re : Nat → Int32) (kf : Nat → Int32) (p1 : Int32) : Nat → Int32 := sw29_X5_levelWith f se to re kf 0 p1.toNatClampNeg
def gv34_5_X5_gatesFor (f : Nat → Int32) (se : Nat → Int32) (to : Nat → Int32) (re : Nat → Int32) (kf : Nat → Int32) (p1 : Int32) : Nat → Int32 := sw30_X5_levelWith f se to re kf 0 p1.toNatClampNeg
def gv58_6_X5_gatesFor (f : Nat → Int32) (se : Nat → Int32) (to : Nat → Int32) (re : Nat → Int32) (p1 : Int32) (i : Nat) (kfi : Nat → Int32) : Nat → Int32 := sw26_X5_levelWith f se to re kfi (nI i) p1.toNatClampNeg
def gv58_7_X5_gatesFor (se : Nat → Int32) : Nat → Int32 := sw27_X5_levelWith se
def gv58_8_X5_gatesFor (f : Nat → Int32) (se : Nat → Int32) (to : Nat → Int32) (re : Nat → Int32) (p1 : Int32) (i : Nat) (kfi : Nat → Int32) : Nat → Int32 := sw28_X5_levelWith f se to re kfi (nI i) p1.toNatClampNeg
def gv58_9_X5_gatesFor (f : Nat → Int32) (se : Nat → Int32) (to : Nat → Int32) (re : Nat → Int32) (p1 : Int32) (i : Nat) (kfi : Nat → Int32) : Nat → Int32 := sw29_X5_levelWith f se to re kfi (nI i) p1.toNatClampNeg
def gv58_10_X5_gatesFor (f : Nat → Int32) (se : Nat → Int32) (to : Nat → Int32) (re : Nat → Int32) (p1 : Int32) (i : Nat) (kfi : Nat → Int32) : Nat → Int32 := sw30_X5_levelWith f se to re kfi (nI i) p1.toNatClampNeg
def l82_3_X5_gatesFor (f : Nat → Int32) (se : Nat → Int32) (to : Nat → Int32) (re : Nat → Int32) (p1 : Int32) (p2 : Int32) (i : Nat) (bm : Int32) (bg : Int32) (kfi : Nat → Int32) : Int32 := if bg ≤ (ag_abs ((sr_X5_levelWith f se to re kfi (nI i) p1.toNatClampNeg) - p2)) then bm else nI i
def l82_4_X5_gatesFor (f : Nat → Int32) (se : Nat → Int32) (to : Nat → Int32) (re : Nat → Int32) (p1 : Int32) (p2 : Int32) (i : Nat) (bg : Int32) (kfi : Nat → Int32) : Int32 := if bg ≤ (ag_abs ((sr_X5_levelWith f se to re kfi (nI i) p1.toNatClampNeg) - p2)) then bg else ag_abs ((sr_X5_levelWith f se to re kfi (nI i) p1.toNatClampNeg) - p2)
abbrev po_X5_gatesFor (cI cC cL : ClassId) (x0 h o t1 x1 y1 z1 x2 s0 s01 s02 s03 s1 s11 s12 s13 s2 s21 s22 s23 s3 s31 s32 s33 h1 h2 h3 y2 o1 o2 o3 : Nat) (hf f se to re pf tf ch of ose oto ore kf : Nat → Int32) (p1 : Int32) (p2 : Int32) (sf : Nat → Nat → Int32) (sse : Nat → Nat → Int32) (sto : Nat → Nat → Int32) (sre : Nat → Nat → Int32) : Int32 → va_W → Prop := fun r w' => sr_X5_gatesFor f se to re of ose oto ore kf p1 p2 = r ∧ [oX x0 h o t1 x1 y1 z1, oH x1 x2 hf, aL cL x2 (gS s0 s1 s2 s3), oL s0 s01 s02 s03 (sf 0), aI cI s01 3 (sse 0), aI cI s02 7 (sto 0), aI cI s03 60 (sre 0), oL s1 s11 s12 s13 (sf 1), aI cI s11 3 (sse 1), aI cI s12 7 (sto 1), aI cI s13 60 (sre 1), oL s2 s21 s22 s23 (sf 2), aI cI s21 3 (sse 2), aI cI s22 7 (sto 2), aI cI s23 60 (sre 2), oL s3 s31 s32 s33 (sf 3), aI cI s31 3 (sse 3), aI cI s32 7 (sto 3), aI cI s33 60 (sre 3), oL h h1 h2 h3 f, aI cI h1 3 se, aI cI h2 7 to, aI cI h3 60 re, oP z1 pf, oT y1 y2 tf, aC cC y2 60 ch, oL o o1 o2 o3 ((gatesForX f se to re of ose oto ore kf p1 p2).2.2.1), aI cI o1 3 ((gatesForX f se to re of ose oto ore kf p1 p2).2.2.2.1), aI cI o2 7 ((gatesForX f se to re of ose oto ore kf p1 p2).2.2.2.2.1), aI cI o3 60 ((gatesForX f se to re of ose oto ore kf p1 p2).2.2.2.2.2.1), oK t1 ((gatesForX f se to re of ose oto ore kf p1 p2).2.2.2.2.2.2)] = w'
set_option maxHeartbeats 4000000 in
set_option maxRecDepth 100000 in
theorem ct_X5_gatesFor (l : Launch) (D : va_G) (cI cC cL : ClassId) (x0 h o t1 x1 y1 z1 x2 s0 s01 s02 s03 s1 s11 s12 s13 s2 s21 s22 s23 s3 s31 s32 s33 h1 h2 h3 y2 o1 o2 o3 : Nat) (hf f se to re pf tf ch of ose oto ore kf : Nat → Int32) (p1 : Int32) (p2 : Int32) (sf : Nat → Nat → Int32) (sse : Nat → Nat → Int32) (sto : Nat → Nat → Int32) (sre : Nat → Nat → Int32) : ag_MI l yX5_gatesFor cX5_gatesFor 7 .int 5 110 D cI cC cL [.ref x0, .int p1, .int p2] [oX x0 h o t1 x1 y1 z1, oH x1 x2 hf, aL cL x2 (gS s0 s1 s2 s3), oL s0 s01 s02 s03 (sf 0), aI cI s01 3 (sse 0), aI cI s02 7 (sto 0), aI cI s03 60 (sre 0), oL s1 s11 s12 s13 (sf 1), aI cI s11 3 (sse 1), aI cI s12 7 (sto 1), aI cI s13 60 (sre 1), oL s2 s21 s22 s23 (sf 2), aI cI s21 3 (sse 2), aI cI s22 7 (sto 2), aI cI s23 60 (sre 2), oL s3 s31 s32 s33 (sf 3), aI cI s31 3 (sse 3), aI cI s32 7 (sto 3), aI cI s33 60 (sre 3), oL h h1 h2 h3 f, aI cI h1 3 se, aI cI h2 7 to, aI cI h3 60 re, oP z1 pf, oT y1 y2 tf, aC cC y2 60 ch, oL o o1 o2 o3 of, aI cI o1 3 ose, aI cI o2 7 oto, aI cI o3 60 ore, oK t1 kf] (po_X5_gatesFor cI cC cL x0 h o t1 x1 y1 z1 x2 s0 s01 s02 s03 s1 s11 s12 s13 s2 s21 s22 s23 s3 s31 s32 s33 h1 h2 h3 y2 o1 o2 o3 hf f se to re pf tf ch of ose oto ore kf p1 p2 sf sse sto sre) := by
  refine ag_MI.of (plainFor_of_name (by decide)) (Nat.le_of_ble_eq_true rfl) ?_
  intro p e s m below meth c hx hb hr hlocks hml hown hmn hG hK A hN hA H locs hP hD hS ls hl
  have hl : lv_has ls 7 [(0, .ref x0), (1, .int p1), (2, .int p2)] := hl
  refine lv_iload_n hx hb dX5_gatesFor_0 rfl (lv_at hl 1 rfl) ?_
  refine lv_iconst (v := 1) hx hb dX5_gatesFor_1 (by decide) ?_
  refine lv_icmp_lt (tgt := 26) hx hb dX5_gatesFor_2 (by decide) (fun c_2 => ?_) (fun c_2 => ?_)
  · refine lv_ldc (v := (-1000000001)) hx hb hown (hG _ k_259) dX5_gatesFor_26 ?_
    exact ag_iret [x0, x1, x2, s0, s01, s02, s03, s1, s11, s12, s13, s2, s21, s22, s23, s3, s31, s32, s33, h, h1, h2, h3, z1, y1, y2, o, o1, o2, o3, t1] hx hb hr rfl hlocks hP hS rfl rfl ⟨(by unfold sr_X5_gatesFor; rw [if_pos (Or.inl c_2)]), (by show _ = _; unfold gatesForX; simp only [if_pos (Or.inl c_2)])⟩ dX5_gatesFor_28
  · refine lv_iload_n hx hb dX5_gatesFor_5 rfl (lv_at hl 1 rfl) ?_
    refine lv_sipush (v := 150) hx hb dX5_gatesFor_6 (by decide) ?_
    refine lv_icmp_gt (tgt := 26) hx hb dX5_gatesFor_9 (by decide) (fun c_9 => ?_) (fun c_9 => ?_)
    · refine lv_ldc (v := (-1000000001)) hx hb hown (hG _ k_259) dX5_gatesFor_26 ?_
      exact ag_iret [x0, x1, x2, s0, s01, s02, s03, s1, s11, s12, s13, s2, s21, s22, s23, s3, s31, s32, s33, h, h1, h2, h3, z1, y1, y2, o, o1, o2, o3, t1] hx hb hr rfl hlocks hP hS rfl rfl ⟨(by unfold sr_X5_gatesFor; rw [if_pos (Or.inr (Or.inl c_9))]), (by show _ = _; unfold gatesForX; simp only [if_pos (Or.inr (Or.inl c_9))])⟩ dX5_gatesFor_28
    · refine lv_iload_n hx hb dX5_gatesFor_12 rfl (lv_at hl 2 rfl) ?_
      refine lv_sipush (v := (-400)) hx hb dX5_gatesFor_13 (by decide) ?_
      refine lv_icmp_lt (tgt := 26) hx hb dX5_gatesFor_16 (by decide) (fun c_16 => ?_) (fun c_16 => ?_)
      · refine lv_ldc (v := (-1000000001)) hx hb hown (hG _ k_259) dX5_gatesFor_26 ?_
        exact ag_iret [x0, x1, x2, s0, s01, s02, s03, s1, s11, s12, s13, s2, s21, s22, s23, s3, s31, s32, s33, h, h1, h2, h3, z1, y1, y2, o, o1, o2, o3, t1] hx hb hr rfl hlocks hP hS rfl rfl ⟨(by unfold sr_X5_gatesFor; rw [if_pos (Or.inr (Or.inr (Or.inl c_16)))]), (by show _ = _; unfold gatesForX; simp only [if_pos (Or.inr (Or.inr (Or.inl c_16)))])⟩ dX5_gatesFor_28
      · refine lv_iload_n hx hb dX5_gatesFor_19 rfl (lv_at hl 2 rfl) ?_
        refine lv_sipush (v := 600) hx hb dX5_gatesFor_20 (by decide) ?_
        refine lv_icmp_le (tgt := 29) hx hb dX5_gatesFor_23 (by decide) (fun c_23 => ?_) (fun c_23 => ?_)
        · refine lv_iconst (v := 0) hx hb dX5_gatesFor_29 (by decide) ?_
          refine lv_istore_n (lv' := [(3, .int 0), (0, .ref x0), (1, .int p1), (2, .int p2)]) hx hb dX5_gatesFor_30 rfl hl (by decide) rfl (fun ls hl => ?_)
          refine lv_aload_n hx hb dX5_gatesFor_31 rfl (lv_at hl 1 rfl) ?_
          refine lv_iconst (v := 0) hx hb dX5_gatesFor_32 (by decide) ?_
          refine lv_iload_n hx hb dX5_gatesFor_33 rfl (lv_at hl 2 rfl) ?_
          refine ag_callVi (As := [.int 0, .int p1]) (rest := []) hx hb hml hown hG hK hN hA hP hD hS hl (ct_X5_levelWith l D cI cC cL x0 h o t1 x1 y1 z1 x2 s0 s01 s02 s03 s1 s11 s12 s13 s2 s21 s22 s23 s3 s31 s32 s33 h1 h2 h3 y2 o1 o2 o3 hf f se to re pf tf ch of ose oto ore kf 0 p1 sf sse sto sre p1.toNatClampNeg (ag_pos c_2)) fX5_levelWith k_444 ag_cut_all (q0 := 0) rfl rfl rfl rfl (Nat.le_of_ble_eq_true rfl) ⟨Nat.le_of_ble_eq_true rfl, Nat.le_of_ble_eq_true rfl⟩ ⟨Nat.zero_le _, Nat.zero_le _⟩ dX5_gatesFor_34 (fun r w1 H locs hw hP hD hS => ?_)
          obtain ⟨rfl, hw⟩ := hw
          generalize eg34_1 : sw26_X5_levelWith f se to re kf 0 p1.toNatClampNeg = g34_1 at hw
          replace eg34_1 : gv34_1_X5_gatesFor f se to re kf p1 = g34_1 := (by rw [← eg34_1]; rfl)
          generalize eg34_2 : sw27_X5_levelWith se = g34_2 at hw
          replace eg34_2 : gv34_2_X5_gatesFor se = g34_2 := (by rw [← eg34_2]; rfl)
          generalize eg34_3 : sw28_X5_levelWith f se to re kf 0 p1.toNatClampNeg = g34_3 at hw
          replace eg34_3 : gv34_3_X5_gatesFor f se to re kf p1 = g34_3 := (by rw [← eg34_3]; rfl)
          generalize eg34_4 : sw29_X5_levelWith f se to re kf 0 p1.toNatClampNeg = g34_4 at hw
          replace eg34_4 : gv34_4_X5_gatesFor f se to re kf p1 = g34_4 := (by rw [← eg34_4]; rfl)
          generalize eg34_5 : sw30_X5_levelWith f se to re kf 0 p1.toNatClampNeg = g34_5 at hw
          replace eg34_5 : gv34_5_X5_gatesFor f se to re kf p1 = g34_5 := (by rw [← eg34_5]; rfl)
          subst hw
          have hP : va_P D vwCl [oX x0 h o t1 x1 y1 z1, oH x1 x2 hf, aL cL x2 (gS s0 s1 s2 s3), oL s0 s01 s02 s03 (sf 0), aI cI s01 3 (sse 0), aI cI s02 7 (sto 0), aI cI s03 60 (sre 0), oL s1 s11 s12 s13 (sf 1), aI cI s11 3 (sse 1), aI cI s12 7 (sto 1), aI cI s13 60 (sre 1), oL s2 s21 s22 s23 (sf 2), aI cI s21 3 (sse 2), aI cI s22 7 (sto 2), aI cI s23 60 (sre 2), oL s3 s31 s32 s33 (sf 3), aI cI s31 3 (sse 3), aI cI s32 7 (sto 3), aI cI s33 60 (sre 3), oL h h1 h2 h3 f, aI cI h1 3 se, aI cI h2 7 to, aI cI h3 60 re, oP z1 pf, oT y1 y2 tf, aC cC y2 60 ch, oL o o1 o2 o3 g34_1, aI cI o1 3 g34_2, aI cI o2 7 g34_3, aI cI o3 60 g34_4, oK t1 g34_5] H := hP
          have hD : va_D A [oX x0 h o t1 x1 y1 z1, oH x1 x2 hf, aL cL x2 (gS s0 s1 s2 s3), oL s0 s01 s02 s03 (sf 0), aI cI s01 3 (sse 0), aI cI s02 7 (sto 0), aI cI s03 60 (sre 0), oL s1 s11 s12 s13 (sf 1), aI cI s11 3 (sse 1), aI cI s12 7 (sto 1), aI cI s13 60 (sre 1), oL s2 s21 s22 s23 (sf 2), aI cI s21 3 (sse 2), aI cI s22 7 (sto 2), aI cI s23 60 (sre 2), oL s3 s31 s32 s33 (sf 3), aI cI s31 3 (sse 3), aI cI s32 7 (sto 3), aI cI s33 60 (sre 3), oL h h1 h2 h3 f, aI cI h1 3 se, aI cI h2 7 to, aI cI h3 60 re, oP z1 pf, oT y1 y2 tf, aC cC y2 60 ch, oL o o1 o2 o3 g34_1, aI cI o1 3 g34_2, aI cI o2 7 g34_3, aI cI o3 60 g34_4, oK t1 g34_5] := hD
          refine lv_iload_n hx hb dX5_gatesFor_37 rfl (lv_at hl 3 rfl) ?_
          refine lv_isub hx hb dX5_gatesFor_38 ?_
          refine va_mabs hx hb (hml.trans hl.1.symm) hown (hG _ k_448) (hG _ k_331) (hG _ k_36) (hG _ k_332) (Nat.le_of_ble_eq_true rfl) (Nat.le_of_ble_eq_true rfl) (Nat.zero_le _) (Nat.zero_le _) dX5_gatesFor_39 ?_
          refine W.eq (g2 := F0 m 42 ls [.int (ag_abs ((sr_X5_levelWith f se to re kf 0 p1.toNatClampNeg) - p2))]) rfl ?_
          refine lv_istore (lv' := [(4, .int (ag_abs ((sr_X5_levelWith f se to re kf 0 p1.toNatClampNeg) - p2))), (3, .int 0), (0, .ref x0), (1, .int p1), (2, .int p2)]) hx hb dX5_gatesFor_42 hl (by decide) rfl (fun ls hl => ?_)
          refine lv_iconst (v := 1) hx hb dX5_gatesFor_44 (by decide) ?_
          refine lv_istore (lv' := [(5, .int 1), (4, .int (ag_abs ((sr_X5_levelWith f se to re kf 0 p1.toNatClampNeg) - p2))), (3, .int 0), (0, .ref x0), (1, .int p1), (2, .int p2)]) hx hb dX5_gatesFor_45 hl (by decide) rfl (fun ls hl => ?_)
          revert hP; revert hD; revert hS; revert hl
          subst eg34_5
          subst eg34_4
          subst eg34_3
          subst eg34_2
          subst eg34_1
          intro hl hS hD hP
          suffices L47 : ∀ (n : Nat) (i : Nat) (bm bg : Int32) (ofi osi oti ori kfi : Nat → Int32), (hi : i + n = 9) → (hR : gatesForL f se to re p2 p1.toNatClampNeg n i (bm, bg, ofi, osi, oti, ori, kfi) = gatesForL f se to re p2 p1.toNatClampNeg 8 1 (gatesFor0 f se to re kf p2 p1.toNatClampNeg)) → ∀ (H : Heap) (locs : List Loc) (ls : Array Slot), lv_has ls 7 [(0, .ref x0), (1, .int p1), (2, .int p2), (3, .int bm), (4, .int bg), (5, .int (nI i))] → va_P D vwCl [oX x0 h o t1 x1 y1 z1, oH x1 x2 hf, aL cL x2 (gS s0 s1 s2 s3), oL s0 s01 s02 s03 (sf 0), aI cI s01 3 (sse 0), aI cI s02 7 (sto 0), aI cI s03 60 (sre 0), oL s1 s11 s12 s13 (sf 1), aI cI s11 3 (sse 1), aI cI s12 7 (sto 1), aI cI s13 60 (sre 1), oL s2 s21 s22 s23 (sf 2), aI cI s21 3 (sse 2), aI cI s22 7 (sto 2), aI cI s23 60 (sre 2), oL s3 s31 s32 s33 (sf 3), aI cI s31 3 (sse 3), aI cI s32 7 (sto 3), aI cI s33 60 (sre 3), oL h h1 h2 h3 f, aI cI h1 3 se, aI cI h2 7 to, aI cI h3 60 re, oP z1 pf, oT y1 y2 tf, aC cC y2 60 ch, oL o o1 o2 o3 ofi, aI cI o1 3 osi, aI cI o2 7 oti, aI cI o3 60 ori, oK t1 kfi] H → va_D A [oX x0 h o t1 x1 y1 z1, oH x1 x2 hf, aL cL x2 (gS s0 s1 s2 s3), oL s0 s01 s02 s03 (sf 0), aI cI s01 3 (sse 0), aI cI s02 7 (sto 0), aI cI s03 60 (sre 0), oL s1 s11 s12 s13 (sf 1), aI cI s11 3 (sse 1), aI cI s12 7 (sto 1), aI cI s13 60 (sre 1), oL s2 s21 s22 s23 (sf 2), aI cI s21 3 (sse 2), aI cI s22 7 (sto 2), aI cI s23 60 (sre 2), oL s3 s31 s32 s33 (sf 3), aI cI s31 3 (sse 3), aI cI s32 7 (sto 3), aI cI s33 60 (sre 3), oL h h1 h2 h3 f, aI cI h1 3 se, aI cI h2 7 to, aI cI h3 60 re, oP z1 pf, oT y1 y2 tf, aC cC y2 60 ch, oL o o1 o2 o3 ofi, aI cI o1 3 osi, aI cI o2 7 oti, aI cI o3 60 ori, oK t1 kfi] → va_S A s.heap H locs → W p l e (ag_rm 5 110) s m ([.ref x0, .int p1, .int p2] : List Value).toArray below meth c H locs 0 0 (MQ below (va_Qi (po_X5_gatesFor cI cC cL x0 h o t1 x1 y1 z1 x2 s0 s01 s02 s03 s1 s11 s12 s13 s2 s21 s22 s23 s3 s31 s32 s33 h1 h2 h3 y2 o1 o2 o3 hf f se to re pf tf ch of ose oto ore kf p1 p2 sf sse sto sre) (ag_Out D [oX x0 h o t1 x1 y1 z1, oH x1 x2 hf, aL cL x2 (gS s0 s1 s2 s3), oL s0 s01 s02 s03 (sf 0), aI cI s01 3 (sse 0), aI cI s02 7 (sto 0), aI cI s03 60 (sre 0), oL s1 s11 s12 s13 (sf 1), aI cI s11 3 (sse 1), aI cI s12 7 (sto 1), aI cI s13 60 (sre 1), oL s2 s21 s22 s23 (sf 2), aI cI s21 3 (sse 2), aI cI s22 7 (sto 2), aI cI s23 60 (sre 2), oL s3 s31 s32 s33 (sf 3), aI cI s31 3 (sse 3), aI cI s32 7 (sto 3), aI cI s33 60 (sre 3), oL h h1 h2 h3 f, aI cI h1 3 se, aI cI h2 7 to, aI cI h3 60 re, oP z1 pf, oT y1 y2 tf, aC cC y2 60 ch, oL o o1 o2 o3 of, aI cI o1 3 ose, aI cI o2 7 oto, aI cI o3 60 ore, oK t1 kf]) A) ([.ref x0, .int p1, .int p2] : List Value).toArray s 0 0 A) (F0 m 47 ls []) from L47 8 1 0 (ag_abs ((sr_X5_levelWith f se to re kf 0 p1.toNatClampNeg) - p2)) (gv34_1_X5_gatesFor f se to re kf p1) (gv34_2_X5_gatesFor se) (gv34_3_X5_gatesFor f se to re kf p1) (gv34_4_X5_gatesFor f se to re kf p1) (gv34_5_X5_gatesFor f se to re kf p1) (by omega) rfl H locs ls (lv_sub hl [3, 4, 5, 2, 1, 0] rfl) hP hD hS
          intro n
          induction n with
          | zero =>
            intro i bm bg ofi osi oti ori kfi hi hR H locs ls hl hP hD hS
            refine lv_iload hx hb dX5_gatesFor_47 (lv_at hl 5 rfl) ?_
            refine lv_bipush (v := 8) hx hb dX5_gatesFor_49 (by decide) ?_
            refine lv_icmp_gt (tgt := 88) hx hb dX5_gatesFor_51 (by decide) (fun _ => ?_) (fun h0 => absurd (nI_lt (a := 8) (by omega) (by omega)) h0)
            refine lv_iload_n hx hb dX5_gatesFor_88 rfl (lv_at hl 3 rfl) ?_
            exact ag_iret [x0, x1, x2, s0, s01, s02, s03, s1, s11, s12, s13, s2, s21, s22, s23, s3, s31, s32, s33, h, h1, h2, h3, z1, y1, y2, o, o1, o2, o3, t1] hx hb hr rfl hlocks hP hS rfl rfl ⟨(by unfold sr_X5_gatesFor gatesForX; rw [if_neg (fun h => h.elim c_2 (fun h => h.elim c_9 (fun h => h.elim c_16 (fun h => h c_23)))), if_neg (fun h => h.elim c_2 (fun h => h.elim c_9 (fun h => h.elim c_16 (fun h => h c_23)))), ← hR]; rfl), (by show _ = _; unfold gatesForX; rw [if_neg (fun h => h.elim c_2 (fun h => h.elim c_9 (fun h => h.elim c_16 (fun h => h c_23)))), ← hR]; rfl)⟩ dX5_gatesFor_89
          | succ n ih =>
            intro i bm bg ofi osi oti ori kfi hi hR H locs ls hl hP hD hS
            refine lv_iload hx hb dX5_gatesFor_47 (lv_at hl 5 rfl) ?_
            refine lv_bipush (v := 8) hx hb dX5_gatesFor_49 (by decide) ?_
            refine lv_icmp_gt (tgt := 88) hx hb dX5_gatesFor_51 (by decide) (fun h0 => absurd h0 (nI_nlt (a := 8) (b := i) (by omega) (by decide))) (fun _ => ?_)
            refine lv_aload_n hx hb dX5_gatesFor_54 rfl (lv_at hl 0 rfl) ?_
            refine lv_iload hx hb dX5_gatesFor_55 (lv_at hl 5 rfl) ?_
            refine lv_iload_n hx hb dX5_gatesFor_57 rfl (lv_at hl 1 rfl) ?_
            refine ag_callVi (As := [.int (nI i), .int p1]) (rest := []) hx hb hml hown hG hK hN hA hP hD hS hl (ct_X5_levelWith l D cI cC cL x0 h o t1 x1 y1 z1 x2 s0 s01 s02 s03 s1 s11 s12 s13 s2 s21 s22 s23 s3 s31 s32 s33 h1 h2 h3 y2 o1 o2 o3 hf f se to re pf tf ch ofi osi oti ori kfi (nI i) p1 sf sse sto sre p1.toNatClampNeg (ag_pos c_2)) fX5_levelWith k_444 ag_cut_all (q0 := 0) rfl rfl rfl rfl (Nat.le_of_ble_eq_true rfl) ⟨Nat.le_of_ble_eq_true rfl, Nat.le_of_ble_eq_true rfl⟩ ⟨Nat.zero_le _, Nat.zero_le _⟩ dX5_gatesFor_58 (fun r w1 H locs hw hP hD hS => ?_)
            obtain ⟨rfl, hw⟩ := hw
            generalize eg58_6 : sw26_X5_levelWith f se to re kfi (nI i) p1.toNatClampNeg = g58_6 at hw
            replace eg58_6 : gv58_6_X5_gatesFor f se to re p1 i kfi = g58_6 := (by rw [← eg58_6]; rfl)
            generalize eg58_7 : sw27_X5_levelWith se = g58_7 at hw
            replace eg58_7 : gv58_7_X5_gatesFor se = g58_7 := (by rw [← eg58_7]; rfl)
            generalize eg58_8 : sw28_X5_levelWith f se to re kfi (nI i) p1.toNatClampNeg = g58_8 at hw
            replace eg58_8 : gv58_8_X5_gatesFor f se to re p1 i kfi = g58_8 := (by rw [← eg58_8]; rfl)
            generalize eg58_9 : sw29_X5_levelWith f se to re kfi (nI i) p1.toNatClampNeg = g58_9 at hw
            replace eg58_9 : gv58_9_X5_gatesFor f se to re p1 i kfi = g58_9 := (by rw [← eg58_9]; rfl)
            generalize eg58_10 : sw30_X5_levelWith f se to re kfi (nI i) p1.toNatClampNeg = g58_10 at hw
            replace eg58_10 : gv58_10_X5_gatesFor f se to re p1 i kfi = g58_10 := (by rw [← eg58_10]; rfl)
            subst hw
            have hP : va_P D vwCl [oX x0 h o t1 x1 y1 z1, oH x1 x2 hf, aL cL x2 (gS s0 s1 s2 s3), oL s0 s01 s02 s03 (sf 0), aI cI s01 3 (sse 0), aI cI s02 7 (sto 0), aI cI s03 60 (sre 0), oL s1 s11 s12 s13 (sf 1), aI cI s11 3 (sse 1), aI cI s12 7 (sto 1), aI cI s13 60 (sre 1), oL s2 s21 s22 s23 (sf 2), aI cI s21 3 (sse 2), aI cI s22 7 (sto 2), aI cI s23 60 (sre 2), oL s3 s31 s32 s33 (sf 3), aI cI s31 3 (sse 3), aI cI s32 7 (sto 3), aI cI s33 60 (sre 3), oL h h1 h2 h3 f, aI cI h1 3 se, aI cI h2 7 to, aI cI h3 60 re, oP z1 pf, oT y1 y2 tf, aC cC y2 60 ch, oL o o1 o2 o3 g58_6, aI cI o1 3 g58_7, aI cI o2 7 g58_8, aI cI o3 60 g58_9, oK t1 g58_10] H := hP
            have hD : va_D A [oX x0 h o t1 x1 y1 z1, oH x1 x2 hf, aL cL x2 (gS s0 s1 s2 s3), oL s0 s01 s02 s03 (sf 0), aI cI s01 3 (sse 0), aI cI s02 7 (sto 0), aI cI s03 60 (sre 0), oL s1 s11 s12 s13 (sf 1), aI cI s11 3 (sse 1), aI cI s12 7 (sto 1), aI cI s13 60 (sre 1), oL s2 s21 s22 s23 (sf 2), aI cI s21 3 (sse 2), aI cI s22 7 (sto 2), aI cI s23 60 (sre 2), oL s3 s31 s32 s33 (sf 3), aI cI s31 3 (sse 3), aI cI s32 7 (sto 3), aI cI s33 60 (sre 3), oL h h1 h2 h3 f, aI cI h1 3 se, aI cI h2 7 to, aI cI h3 60 re, oP z1 pf, oT y1 y2 tf, aC cC y2 60 ch, oL o o1 o2 o3 g58_6, aI cI o1 3 g58_7, aI cI o2 7 g58_8, aI cI o3 60 g58_9, oK t1 g58_10] := hD
            refine lv_iload_n hx hb dX5_gatesFor_61 rfl (lv_at hl 2 rfl) ?_
            refine lv_isub hx hb dX5_gatesFor_62 ?_
            refine va_mabs hx hb (hml.trans hl.1.symm) hown (hG _ k_448) (hG _ k_331) (hG _ k_36) (hG _ k_332) (Nat.le_of_ble_eq_true rfl) (Nat.le_of_ble_eq_true rfl) (Nat.zero_le _) (Nat.zero_le _) dX5_gatesFor_63 ?_
            refine W.eq (g2 := F0 m 66 ls [.int (ag_abs ((sr_X5_levelWith f se to re kfi (nI i) p1.toNatClampNeg) - p2))]) rfl ?_
            refine lv_istore (lv' := [(6, .int (ag_abs ((sr_X5_levelWith f se to re kfi (nI i) p1.toNatClampNeg) - p2))), (0, .ref x0), (1, .int p1), (2, .int p2), (3, .int bm), (4, .int bg), (5, .int (nI i))]) hx hb dX5_gatesFor_66 hl (by decide) rfl (fun ls hl => ?_)
            refine lv_iload hx hb dX5_gatesFor_68 (lv_at hl 0 rfl) ?_
            refine lv_iload hx hb dX5_gatesFor_70 (lv_at hl 5 rfl) ?_
            have J82 : ∀ (ls : Array Slot), lv_has ls 7 [(0, .ref x0), (1, .int p1), (2, .int p2), (3, .int (l82_3_X5_gatesFor f se to re p1 p2 i bm bg kfi)), (4, .int (l82_4_X5_gatesFor f se to re p1 p2 i bg kfi)), (5, .int (nI i)), (6, .int (ag_abs ((sr_X5_levelWith f se to re kfi (nI i) p1.toNatClampNeg) - p2)))] → W p l e (ag_rm 5 110) s m ([.ref x0, .int p1, .int p2] : List Value).toArray below meth c H locs 0 0 (MQ below (va_Qi (po_X5_gatesFor cI cC cL x0 h o t1 x1 y1 z1 x2 s0 s01 s02 s03 s1 s11 s12 s13 s2 s21 s22 s23 s3 s31 s32 s33 h1 h2 h3 y2 o1 o2 o3 hf f se to re pf tf ch of ose oto ore kf p1 p2 sf sse sto sre) (ag_Out D [oX x0 h o t1 x1 y1 z1, oH x1 x2 hf, aL cL x2 (gS s0 s1 s2 s3), oL s0 s01 s02 s03 (sf 0), aI cI s01 3 (sse 0), aI cI s02 7 (sto 0), aI cI s03 60 (sre 0), oL s1 s11 s12 s13 (sf 1), aI cI s11 3 (sse 1), aI cI s12 7 (sto 1), aI cI s13 60 (sre 1), oL s2 s21 s22 s23 (sf 2), aI cI s21 3 (sse 2), aI cI s22 7 (sto 2), aI cI s23 60 (sre 2), oL s3 s31 s32 s33 (sf 3), aI cI s31 3 (sse 3), aI cI s32 7 (sto 3), aI cI s33 60 (sre 3), oL h h1 h2 h3 f, aI cI h1 3 se, aI cI h2 7 to, aI cI h3 60 re, oP z1 pf, oT y1 y2 tf, aC cC y2 60 ch, oL o o1 o2 o3 of, aI cI o1 3 ose, aI cI o2 7 oto, aI cI o3 60 ore, oK t1 kf]) A) ([.ref x0, .int p1, .int p2] : List Value).toArray s 0 0 A) (F0 m 82 ls []) := by
              intro ls hl
              refine lv_iinc (v := nI (i + 1)) (lv' := [(5, .int (nI (i + 1))), (0, .ref x0), (1, .int p1), (2, .int p2), (3, .int (l82_3_X5_gatesFor f se to re p1 p2 i bm bg kfi)), (4, .int (l82_4_X5_gatesFor f se to re p1 p2 i bg kfi)), (6, .int (ag_abs ((sr_X5_levelWith f se to re kfi (nI i) p1.toNatClampNeg) - p2)))]) hx hb dX5_gatesFor_82 hl (k := 5) rfl (nI_1 i) (by decide) rfl (fun ls hl => ?_)
              refine lv_goto (tgt := 47) hx hb dX5_gatesFor_85 (by decide) ?_
              revert hP; revert hD; revert hS; revert hl
              subst eg58_10
              subst eg58_9
              subst eg58_8
              subst eg58_7
              subst eg58_6
              intro hl hS hD hP
              exact ih (i + 1) (l82_3_X5_gatesFor f se to re p1 p2 i bm bg kfi) (l82_4_X5_gatesFor f se to re p1 p2 i bg kfi) (gv58_6_X5_gatesFor f se to re p1 i kfi) (gv58_7_X5_gatesFor se) (gv58_8_X5_gatesFor f se to re p1 i kfi) (gv58_9_X5_gatesFor f se to re p1 i kfi) (gv58_10_X5_gatesFor f se to re p1 i kfi) (by omega) hR H locs ls (lv_sub hl [1, 2, 3, 4, 5, 0] rfl) hP hD hS
            refine lv_icmp_ge (tgt := 82) hx hb dX5_gatesFor_72 (by decide) (fun c_72 => ?_) (fun c_72 => ?_)
            · revert hP; revert hD; revert hS; revert hl
              subst eg58_10
              subst eg58_9
              subst eg58_8
              subst eg58_7
              subst eg58_6
              intro hl hS hD hP
              simp only [l82_3_X5_gatesFor, l82_4_X5_gatesFor, if_pos c_72] at J82
              exact J82 _ (lv_sub hl [1, 2, 3, 4, 5, 6, 0] rfl)
            · refine lv_iload hx hb dX5_gatesFor_75 (lv_at hl 6 rfl) ?_
              refine lv_istore_n (lv' := [(3, .int (nI i)), (6, .int (ag_abs ((sr_X5_levelWith f se to re kfi (nI i) p1.toNatClampNeg) - p2))), (0, .ref x0), (1, .int p1), (2, .int p2), (4, .int bg), (5, .int (nI i))]) hx hb dX5_gatesFor_77 rfl hl (by decide) rfl (fun ls hl => ?_)
              refine lv_iload hx hb dX5_gatesFor_78 (lv_at hl 1 rfl) ?_
              refine lv_istore (lv' := [(4, .int (ag_abs ((sr_X5_levelWith f se to re kfi (nI i) p1.toNatClampNeg) - p2))), (3, .int (nI i)), (6, .int (ag_abs ((sr_X5_levelWith f se to re kfi (nI i) p1.toNatClampNeg) - p2))), (0, .ref x0), (1, .int p1), (2, .int p2), (5, .int (nI i))]) hx hb dX5_gatesFor_80 hl (by decide) rfl (fun ls hl => ?_)
              revert hP; revert hD; revert hS; revert hl
              subst eg58_10
              subst eg58_9
              subst eg58_8
              subst eg58_7
              subst eg58_6
              intro hl hS hD hP
              simp only [l82_3_X5_gatesFor, l82_4_X5_gatesFor, if_neg c_72] at J82
              exact J82 _ (lv_sub hl [3, 4, 5, 1, 0, 6, 2] rfl)
        · refine lv_ldc (v := (-1000000001)) hx hb hown (hG _ k_259) dX5_gatesFor_26 ?_
          exact ag_iret [x0, x1, x2, s0, s01, s02, s03, s1, s11, s12, s13, s2, s21, s22, s23, s3, s31, s32, s33, h, h1, h2, h3, z1, y1, y2, o, o1, o2, o3, t1] hx hb hr rfl hlocks hP hS rfl rfl ⟨(by unfold sr_X5_gatesFor; rw [if_pos (Or.inr (Or.inr (Or.inr c_23)))]), (by show _ = _; unfold gatesForX; simp only [if_pos (Or.inr (Or.inr (Or.inr c_23)))])⟩ dX5_gatesFor_28
def bdL (re : Nat → Int32) (a : Nat) : Nat → Nat → Int32 × Int32 → Int32 × Int32
  | 0, _, x => x
  | n + 1, i, x => bdL re a n (i + 1) (if re (rs (nI (a + i)) + 0) ≤ x.2 then x.1 else nI (a + i), if re (rs (nI (a + i)) + 0) ≤ x.2 then x.2 else re (rs (nI (a + i)) + 0))
theorem bd_end {la : Int32} {b : Nat} (h : la = nI b - 1) (hb : b < 2 ^ 30) (k : Nat) (hk : k < 2 ^ 30) : la < nI k ↔ b ≤ k := by
  rw [h, Int32.lt_iff_toInt_lt, nI_toInt (by omega), Int32.toInt_sub, nI_toInt (by omega), show (1 : Int32).toInt = 1 from rfl, ag_bm (by omega) (by omega)]
  omega
def l57_1_X5_bestDay (re : Nat → Int32) (a : Nat) (i : Nat) (fo : Int32) (mo : Int32) : Int32 := if (re ((rs (nI (a + i))) + 0)) ≤ mo then fo else nI (a + i)
def l57_2_X5_bestDay (re : Nat → Int32) (a : Nat) (i : Nat) (mo : Int32) : Int32 := if (re ((rs (nI (a + i))) + 0)) ≤ mo then mo else re ((rs (nI (a + i))) + 0)
abbrev po_X5_bestDay (cI cC cL : ClassId) (x0 h o t1 x1 y1 z1 x2 s0 s01 s02 s03 s1 s11 s12 s13 s2 s21 s22 s23 s3 s31 s32 s33 h1 h2 h3 y2 o1 o2 o3 : Nat) (hf f se to re pf tf ch of ose oto ore kf : Nat → Int32) (sf : Nat → Nat → Int32) (sse : Nat → Nat → Int32) (sto : Nat → Nat → Int32) (sre : Nat → Nat → Int32) (a : Nat) (N : Nat) (hq : sr_X1_firstDay f = nI a ∧ sr_X1_lastDay f = nI (a + N) - 1 ∧ a + N < 2 ^ 30) : Int32 → va_W → Prop := fun r w' => (bdL re a N 0 ((-1000000004), (-1))).1 = r ∧ [oX x0 h o t1 x1 y1 z1, oH x1 x2 hf, aL cL x2 (gS s0 s1 s2 s3), oL s0 s01 s02 s03 (sf 0), aI cI s01 3 (sse 0), aI cI s02 7 (sto 0), aI cI s03 60 (sre 0), oL s1 s11 s12 s13 (sf 1), aI cI s11 3 (sse 1), aI cI s12 7 (sto 1), aI cI s13 60 (sre 1), oL s2 s21 s22 s23 (sf 2), aI cI s21 3 (sse 2), aI cI s22 7 (sto 2), aI cI s23 60 (sre 2), oL s3 s31 s32 s33 (sf 3), aI cI s31 3 (sse 3), aI cI s32 7 (sto 3), aI cI s33 60 (sre 3), oL h h1 h2 h3 f, aI cI h1 3 se, aI cI h2 7 to, aI cI h3 60 re, oP z1 pf, oT y1 y2 tf, aC cC y2 60 ch, oL o o1 o2 o3 of, aI cI o1 3 ose, aI cI o2 7 oto, aI cI o3 60 ore, oK t1 kf] = w'
set_option maxHeartbeats 4000000 in
set_option maxRecDepth 100000 in
theorem ct_X5_bestDay (l : Launch) (D : va_G) (cI cC cL : ClassId) (x0 h o t1 x1 y1 z1 x2 s0 s01 s02 s03 s1 s11 s12 s13 s2 s21 s22 s23 s3 s31 s32 s33 h1 h2 h3 y2 o1 o2 o3 : Nat) (hf f se to re pf tf ch of ose oto ore kf : Nat → Int32) (sf : Nat → Nat → Int32) (sse : Nat → Nat → Int32) (sto : Nat → Nat → Int32) (sre : Nat → Nat → Int32) (a : Nat) (N : Nat) (hq : sr_X1_firstDay f = nI a ∧ sr_X1_lastDay f = nI (a + N) - 1 ∧ a + N < 2 ^ 30) : ag_MI l yX5_bestDay cX5_bestDay 6 .int 3 62 D cI cC cL [.ref x0] [oX x0 h o t1 x1 y1 z1, oH x1 x2 hf, aL cL x2 (gS s0 s1 s2 s3), oL s0 s01 s02 s03 (sf 0), aI cI s01 3 (sse 0), aI cI s02 7 (sto 0), aI cI s03 60 (sre 0), oL s1 s11 s12 s13 (sf 1), aI cI s11 3 (sse 1), aI cI s12 7 (sto 1), aI cI s13 60 (sre 1), oL s2 s21 s22 s23 (sf 2), aI cI s21 3 (sse 2), aI cI s22 7 (sto 2), aI cI s23 60 (sre 2), oL s3 s31 s32 s33 (sf 3), aI cI s31 3 (sse 3), aI cI s32 7 (sto 3), aI cI s33 60 (sre 3), oL h h1 h2 h3 f, aI cI h1 3 se, aI cI h2 7 to, aI cI h3 60 re, oP z1 pf, oT y1 y2 tf, aC cC y2 60 ch, oL o o1 o2 o3 of, aI cI o1 3 ose, aI cI o2 7 oto, aI cI o3 60 ore, oK t1 kf] (po_X5_bestDay cI cC cL x0 h o t1 x1 y1 z1 x2 s0 s01 s02 s03 s1 s11 s12 s13 s2 s21 s22 s23 s3 s31 s32 s33 h1 h2 h3 y2 o1 o2 o3 hf f se to re pf tf ch of ose oto ore kf sf sse sto sre a N hq) := by
  refine ag_MI.of (plainFor_of_name (by decide)) (Nat.le_of_ble_eq_true rfl) ?_
  intro p e s m below meth c hx hb hr hlocks hml hown hmn hG hK A hN hA H locs hP hD hS ls hl
  have hl : lv_has ls 6 [(0, .ref x0)] := hl
  refine lv_ldc (v := (-1000000004)) hx hb hown (hG _ k_412) dX5_bestDay_0 ?_
  refine lv_istore_n (lv' := [(1, .int (-1000000004)), (0, .ref x0)]) hx hb dX5_bestDay_2 rfl hl (by decide) rfl (fun ls hl => ?_)
  refine lv_iconst (v := (-1)) hx hb dX5_bestDay_3 (by decide) ?_
  refine lv_istore_n (lv' := [(2, .int (-1)), (1, .int (-1000000004)), (0, .ref x0)]) hx hb dX5_bestDay_4 rfl hl (by decide) rfl (fun ls hl => ?_)
  refine lv_aload_n hx hb dX5_bestDay_5 rfl (lv_at hl 2 rfl) ?_
  refine ag_getX5 (v := .ref h) hx hb hG hown hK hP 0 0 rfl (by decide) k_217 rfl dX5_bestDay_6 ?_
  refine ag_callVi (As := []) (rest := []) hx hb hml hown hG hK hN hA hP hD hS hl (ct_X1_lastDay l D cI cC cL h h1 h2 h3 f se to re) fX1_lastDay k_411 (ag_cut_1 [oX x0 h o t1 x1 y1 z1, oH x1 x2 hf, aL cL x2 (gS s0 s1 s2 s3), oL s0 s01 s02 s03 (sf 0), aI cI s01 3 (sse 0), aI cI s02 7 (sto 0), aI cI s03 60 (sre 0), oL s1 s11 s12 s13 (sf 1), aI cI s11 3 (sse 1), aI cI s12 7 (sto 1), aI cI s13 60 (sre 1), oL s2 s21 s22 s23 (sf 2), aI cI s21 3 (sse 2), aI cI s22 7 (sto 2), aI cI s23 60 (sre 2), oL s3 s31 s32 s33 (sf 3), aI cI s31 3 (sse 3), aI cI s32 7 (sto 3), aI cI s33 60 (sre 3)] [oP z1 pf, oT y1 y2 tf, aC cC y2 60 ch, oL o o1 o2 o3 of, aI cI o1 3 ose, aI cI o2 7 oto, aI cI o3 60 ore, oK t1 kf] rfl) (q0 := 19) rfl rfl rfl rfl (Nat.le_of_ble_eq_true rfl) ⟨Nat.le_of_ble_eq_true rfl, Nat.le_of_ble_eq_true rfl⟩ ⟨Nat.zero_le _, Nat.zero_le _⟩ dX5_bestDay_9 (fun r w1 H locs hw hP hD hS => ?_)
  obtain ⟨rfl, hw⟩ := hw
  subst hw
  have hP : va_P D vwCl [oX x0 h o t1 x1 y1 z1, oH x1 x2 hf, aL cL x2 (gS s0 s1 s2 s3), oL s0 s01 s02 s03 (sf 0), aI cI s01 3 (sse 0), aI cI s02 7 (sto 0), aI cI s03 60 (sre 0), oL s1 s11 s12 s13 (sf 1), aI cI s11 3 (sse 1), aI cI s12 7 (sto 1), aI cI s13 60 (sre 1), oL s2 s21 s22 s23 (sf 2), aI cI s21 3 (sse 2), aI cI s22 7 (sto 2), aI cI s23 60 (sre 2), oL s3 s31 s32 s33 (sf 3), aI cI s31 3 (sse 3), aI cI s32 7 (sto 3), aI cI s33 60 (sre 3), oL h h1 h2 h3 f, aI cI h1 3 se, aI cI h2 7 to, aI cI h3 60 re, oP z1 pf, oT y1 y2 tf, aC cC y2 60 ch, oL o o1 o2 o3 of, aI cI o1 3 ose, aI cI o2 7 oto, aI cI o3 60 ore, oK t1 kf] H := hP
  have hD : va_D A [oX x0 h o t1 x1 y1 z1, oH x1 x2 hf, aL cL x2 (gS s0 s1 s2 s3), oL s0 s01 s02 s03 (sf 0), aI cI s01 3 (sse 0), aI cI s02 7 (sto 0), aI cI s03 60 (sre 0), oL s1 s11 s12 s13 (sf 1), aI cI s11 3 (sse 1), aI cI s12 7 (sto 1), aI cI s13 60 (sre 1), oL s2 s21 s22 s23 (sf 2), aI cI s21 3 (sse 2), aI cI s22 7 (sto 2), aI cI s23 60 (sre 2), oL s3 s31 s32 s33 (sf 3), aI cI s31 3 (sse 3), aI cI s32 7 (sto 3), aI cI s33 60 (sre 3), oL h h1 h2 h3 f, aI cI h1 3 se, aI cI h2 7 to, aI cI h3 60 re, oP z1 pf, oT y1 y2 tf, aC cC y2 60 ch, oL o o1 o2 o3 of, aI cI o1 3 ose, aI cI o2 7 oto, aI cI o3 60 ore, oK t1 kf] := hD
  refine lv_istore_n (lv' := [(3, .int (sr_X1_lastDay f)), (2, .int (-1)), (1, .int (-1000000004)), (0, .ref x0)]) hx hb dX5_bestDay_12 rfl hl (by decide) rfl (fun ls hl => ?_)
  refine lv_aload_n hx hb dX5_bestDay_13 rfl (lv_at hl 3 rfl) ?_
  refine ag_getX5 (v := .ref h) hx hb hG hown hK hP 0 0 rfl (by decide) k_217 rfl dX5_bestDay_14 ?_
  refine ag_callVi (As := []) (rest := []) hx hb hml hown hG hK hN hA hP hD hS hl (ct_X1_firstDay l D cI cC cL h h1 h2 h3 f se to re) fX1_firstDay k_400 (ag_cut_1 [oX x0 h o t1 x1 y1 z1, oH x1 x2 hf, aL cL x2 (gS s0 s1 s2 s3), oL s0 s01 s02 s03 (sf 0), aI cI s01 3 (sse 0), aI cI s02 7 (sto 0), aI cI s03 60 (sre 0), oL s1 s11 s12 s13 (sf 1), aI cI s11 3 (sse 1), aI cI s12 7 (sto 1), aI cI s13 60 (sre 1), oL s2 s21 s22 s23 (sf 2), aI cI s21 3 (sse 2), aI cI s22 7 (sto 2), aI cI s23 60 (sre 2), oL s3 s31 s32 s33 (sf 3), aI cI s31 3 (sse 3), aI cI s32 7 (sto 3), aI cI s33 60 (sre 3)] [oP z1 pf, oT y1 y2 tf, aC cC y2 60 ch, oL o o1 o2 o3 of, aI cI o1 3 ose, aI cI o2 7 oto, aI cI o3 60 ore, oK t1 kf] rfl) (q0 := 19) rfl rfl rfl rfl (Nat.le_of_ble_eq_true rfl) ⟨Nat.le_of_ble_eq_true rfl, Nat.le_of_ble_eq_true rfl⟩ ⟨Nat.zero_le _, Nat.zero_le _⟩ dX5_bestDay_17 (fun r w1 H locs hw hP hD hS => ?_)
  obtain ⟨rfl, hw⟩ := hw
  subst hw
  have hP : va_P D vwCl [oX x0 h o t1 x1 y1 z1, oH x1 x2 hf, aL cL x2 (gS s0 s1 s2 s3), oL s0 s01 s02 s03 (sf 0), aI cI s01 3 (sse 0), aI cI s02 7 (sto 0), aI cI s03 60 (sre 0), oL s1 s11 s12 s13 (sf 1), aI cI s11 3 (sse 1), aI cI s12 7 (sto 1), aI cI s13 60 (sre 1), oL s2 s21 s22 s23 (sf 2), aI cI s21 3 (sse 2), aI cI s22 7 (sto 2), aI cI s23 60 (sre 2), oL s3 s31 s32 s33 (sf 3), aI cI s31 3 (sse 3), aI cI s32 7 (sto 3), aI cI s33 60 (sre 3), oL h h1 h2 h3 f, aI cI h1 3 se, aI cI h2 7 to, aI cI h3 60 re, oP z1 pf, oT y1 y2 tf, aC cC y2 60 ch, oL o o1 o2 o3 of, aI cI o1 3 ose, aI cI o2 7 oto, aI cI o3 60 ore, oK t1 kf] H := hP
  have hD : va_D A [oX x0 h o t1 x1 y1 z1, oH x1 x2 hf, aL cL x2 (gS s0 s1 s2 s3), oL s0 s01 s02 s03 (sf 0), aI cI s01 3 (sse 0), aI cI s02 7 (sto 0), aI cI s03 60 (sre 0), oL s1 s11 s12 s13 (sf 1), aI cI s11 3 (sse 1), aI cI s12 7 (sto 1), aI cI s13 60 (sre 1), oL s2 s21 s22 s23 (sf 2), aI cI s21 3 (sse 2), aI cI s22 7 (sto 2), aI cI s23 60 (sre 2), oL s3 s31 s32 s33 (sf 3), aI cI s31 3 (sse 3), aI cI s32 7 (sto 3), aI cI s33 60 (sre 3), oL h h1 h2 h3 f, aI cI h1 3 se, aI cI h2 7 to, aI cI h3 60 re, oP z1 pf, oT y1 y2 tf, aC cC y2 60 ch, oL o o1 o2 o3 of, aI cI o1 3 ose, aI cI o2 7 oto, aI cI o3 60 ore, oK t1 kf] := hD
  refine lv_istore (lv' := [(4, .int (sr_X1_firstDay f)), (3, .int (sr_X1_lastDay f)), (2, .int (-1)), (1, .int (-1000000004)), (0, .ref x0)]) hx hb dX5_bestDay_20 hl (by decide) rfl (fun ls hl => ?_)
  rw [hq.1] at hl
  suffices L22 : ∀ (n : Nat) (i : Nat) (fo mo : Int32), (hi : i + n = N) → (hR : bdL re a n i (fo, mo) = bdL re a N 0 ((-1000000004), (-1))) → ∀ (H : Heap) (locs : List Loc) (ls : Array Slot), lv_has ls 6 [(0, .ref x0), (1, .int fo), (2, .int mo), (3, .int (sr_X1_lastDay f)), (4, .int (nI (a + i)))] → va_P D vwCl [oX x0 h o t1 x1 y1 z1, oH x1 x2 hf, aL cL x2 (gS s0 s1 s2 s3), oL s0 s01 s02 s03 (sf 0), aI cI s01 3 (sse 0), aI cI s02 7 (sto 0), aI cI s03 60 (sre 0), oL s1 s11 s12 s13 (sf 1), aI cI s11 3 (sse 1), aI cI s12 7 (sto 1), aI cI s13 60 (sre 1), oL s2 s21 s22 s23 (sf 2), aI cI s21 3 (sse 2), aI cI s22 7 (sto 2), aI cI s23 60 (sre 2), oL s3 s31 s32 s33 (sf 3), aI cI s31 3 (sse 3), aI cI s32 7 (sto 3), aI cI s33 60 (sre 3), oL h h1 h2 h3 f, aI cI h1 3 se, aI cI h2 7 to, aI cI h3 60 re, oP z1 pf, oT y1 y2 tf, aC cC y2 60 ch, oL o o1 o2 o3 of, aI cI o1 3 ose, aI cI o2 7 oto, aI cI o3 60 ore, oK t1 kf] H → va_D A [oX x0 h o t1 x1 y1 z1, oH x1 x2 hf, aL cL x2 (gS s0 s1 s2 s3), oL s0 s01 s02 s03 (sf 0), aI cI s01 3 (sse 0), aI cI s02 7 (sto 0), aI cI s03 60 (sre 0), oL s1 s11 s12 s13 (sf 1), aI cI s11 3 (sse 1), aI cI s12 7 (sto 1), aI cI s13 60 (sre 1), oL s2 s21 s22 s23 (sf 2), aI cI s21 3 (sse 2), aI cI s22 7 (sto 2), aI cI s23 60 (sre 2), oL s3 s31 s32 s33 (sf 3), aI cI s31 3 (sse 3), aI cI s32 7 (sto 3), aI cI s33 60 (sre 3), oL h h1 h2 h3 f, aI cI h1 3 se, aI cI h2 7 to, aI cI h3 60 re, oP z1 pf, oT y1 y2 tf, aC cC y2 60 ch, oL o o1 o2 o3 of, aI cI o1 3 ose, aI cI o2 7 oto, aI cI o3 60 ore, oK t1 kf] → va_S A s.heap H locs → W p l e (ag_rm 3 62) s m ([.ref x0] : List Value).toArray below meth c H locs 0 0 (MQ below (va_Qi (po_X5_bestDay cI cC cL x0 h o t1 x1 y1 z1 x2 s0 s01 s02 s03 s1 s11 s12 s13 s2 s21 s22 s23 s3 s31 s32 s33 h1 h2 h3 y2 o1 o2 o3 hf f se to re pf tf ch of ose oto ore kf sf sse sto sre a N hq) (ag_Out D [oX x0 h o t1 x1 y1 z1, oH x1 x2 hf, aL cL x2 (gS s0 s1 s2 s3), oL s0 s01 s02 s03 (sf 0), aI cI s01 3 (sse 0), aI cI s02 7 (sto 0), aI cI s03 60 (sre 0), oL s1 s11 s12 s13 (sf 1), aI cI s11 3 (sse 1), aI cI s12 7 (sto 1), aI cI s13 60 (sre 1), oL s2 s21 s22 s23 (sf 2), aI cI s21 3 (sse 2), aI cI s22 7 (sto 2), aI cI s23 60 (sre 2), oL s3 s31 s32 s33 (sf 3), aI cI s31 3 (sse 3), aI cI s32 7 (sto 3), aI cI s33 60 (sre 3), oL h h1 h2 h3 f, aI cI h1 3 se, aI cI h2 7 to, aI cI h3 60 re, oP z1 pf, oT y1 y2 tf, aC cC y2 60 ch, oL o o1 o2 o3 of, aI cI o1 3 ose, aI cI o2 7 oto, aI cI o3 60 ore, oK t1 kf]) A) ([.ref x0] : List Value).toArray s 0 0 A) (F0 m 22 ls []) from L22 N 0 (-1000000004) (-1) (by omega) rfl H locs ls (lv_sub hl [4, 3, 2, 1, 0] rfl) hP hD hS
  intro n
  induction n with
  | zero =>
    intro i fo mo hi hR H locs ls hl hP hD hS
    refine lv_iload hx hb dX5_bestDay_22 (lv_at hl 4 rfl) ?_
    refine lv_iload_n hx hb dX5_bestDay_24 rfl (lv_at hl 3 rfl) ?_
    refine lv_icmp_gt (tgt := 63) hx hb dX5_bestDay_25 (by decide) (fun _ => ?_) (fun h0 => absurd ((bd_end hq.2.1 hq.2.2 (a + i) (by omega)).mpr (by omega)) h0)
    refine lv_iload_n hx hb dX5_bestDay_63 rfl (lv_at hl 1 rfl) ?_
    exact ag_iret [x0, x1, x2, s0, s01, s02, s03, s1, s11, s12, s13, s2, s21, s22, s23, s3, s31, s32, s33, h, h1, h2, h3, z1, y1, y2, o, o1, o2, o3, t1] hx hb hr rfl hlocks hP hS rfl rfl ⟨(by rw [← hR]; rfl), rfl⟩ dX5_bestDay_64
  | succ n ih =>
    intro i fo mo hi hR H locs ls hl hP hD hS
    refine lv_iload hx hb dX5_bestDay_22 (lv_at hl 4 rfl) ?_
    refine lv_iload_n hx hb dX5_bestDay_24 rfl (lv_at hl 3 rfl) ?_
    refine lv_icmp_gt (tgt := 63) hx hb dX5_bestDay_25 (by decide) (fun h0 => absurd h0 (fun h => absurd ((bd_end hq.2.1 hq.2.2 (a + i) (by omega)).mp h) (by omega))) (fun _ => ?_)
    refine lv_aload_n hx hb dX5_bestDay_28 rfl (lv_at hl 0 rfl) ?_
    refine ag_getX5 (v := .ref h) hx hb hG hown hK hP 0 0 rfl (by decide) k_217 rfl dX5_bestDay_29 ?_
    refine ag_getX1 (v := .ref h3) hx hb hG hown hK hP 19 10 rfl (by decide) k_78 rfl dX5_bestDay_32 ?_
    refine lv_iload hx hb dX5_bestDay_35 (lv_at hl 4 rfl) ?_
    refine ag_callSi (As := [.int (nI (a + i))]) (rest := [.ref h3]) hx hb hml hown hG hK hN hA hP hD hS hl (ct_X5_recordStart l D cI cC cL (nI (a + i))) fX5_recordStart k_413 ag_cut_0 rfl (Nat.le_of_ble_eq_true rfl) ⟨Nat.le_of_ble_eq_true rfl, Nat.le_of_ble_eq_true rfl⟩ ⟨Nat.zero_le _, Nat.zero_le _⟩ dX5_bestDay_37 (fun r w1 H locs hw hP hD hS => ?_)
    obtain ⟨rfl, hw⟩ := hw
    subst hw
    have hP : va_P D vwCl [oX x0 h o t1 x1 y1 z1, oH x1 x2 hf, aL cL x2 (gS s0 s1 s2 s3), oL s0 s01 s02 s03 (sf 0), aI cI s01 3 (sse 0), aI cI s02 7 (sto 0), aI cI s03 60 (sre 0), oL s1 s11 s12 s13 (sf 1), aI cI s11 3 (sse 1), aI cI s12 7 (sto 1), aI cI s13 60 (sre 1), oL s2 s21 s22 s23 (sf 2), aI cI s21 3 (sse 2), aI cI s22 7 (sto 2), aI cI s23 60 (sre 2), oL s3 s31 s32 s33 (sf 3), aI cI s31 3 (sse 3), aI cI s32 7 (sto 3), aI cI s33 60 (sre 3), oL h h1 h2 h3 f, aI cI h1 3 se, aI cI h2 7 to, aI cI h3 60 re, oP z1 pf, oT y1 y2 tf, aC cC y2 60 ch, oL o o1 o2 o3 of, aI cI o1 3 ose, aI cI o2 7 oto, aI cI o3 60 ore, oK t1 kf] H := hP
    have hD : va_D A [oX x0 h o t1 x1 y1 z1, oH x1 x2 hf, aL cL x2 (gS s0 s1 s2 s3), oL s0 s01 s02 s03 (sf 0), aI cI s01 3 (sse 0), aI cI s02 7 (sto 0), aI cI s03 60 (sre 0), oL s1 s11 s12 s13 (sf 1), aI cI s11 3 (sse 1), aI cI s12 7 (sto 1), aI cI s13 60 (sre 1), oL s2 s21 s22 s23 (sf 2), aI cI s21 3 (sse 2), aI cI s22 7 (sto 2), aI cI s23 60 (sre 2), oL s3 s31 s32 s33 (sf 3), aI cI s31 3 (sse 3), aI cI s32 7 (sto 3), aI cI s33 60 (sre 3), oL h h1 h2 h3 f, aI cI h1 3 se, aI cI h2 7 to, aI cI h3 60 re, oP z1 pf, oT y1 y2 tf, aC cC y2 60 ch, oL o o1 o2 o3 of, aI cI o1 3 ose, aI cI o2 7 oto, aI cI o3 60 ore, oK t1 kf] := hD
    refine lv_iconst (v := 0) hx hb dX5_bestDay_40 (by decide) ?_
    refine lv_iadd hx hb dX5_bestDay_41 ?_
    refine ag_ild (k := (rs (nI (a + i))) + 0) (v := re ((rs (nI (a + i))) + 0)) hx hb hK hP 22 rfl ((congrArg (· + (0 : Int32)) (rs_eq (nI (a + i)))).trans (nI_add _ 0)) (by have := rs_le (nI (a + i)); omega) (Nat.le_of_ble_eq_true rfl) rfl dX5_bestDay_42 ?_
    refine lv_istore (lv' := [(5, .int (re ((rs (nI (a + i))) + 0))), (0, .ref x0), (1, .int fo), (2, .int mo), (3, .int (sr_X1_lastDay f)), (4, .int (nI (a + i)))]) hx hb dX5_bestDay_43 hl (by decide) rfl (fun ls hl => ?_)
    refine lv_iload hx hb dX5_bestDay_45 (lv_at hl 0 rfl) ?_
    refine lv_iload_n hx hb dX5_bestDay_47 rfl (lv_at hl 3 rfl) ?_
    have J57 : ∀ (ls : Array Slot), lv_has ls 6 [(0, .ref x0), (1, .int (l57_1_X5_bestDay re a i fo mo)), (2, .int (l57_2_X5_bestDay re a i mo)), (3, .int (sr_X1_lastDay f)), (4, .int (nI (a + i))), (5, .int (re ((rs (nI (a + i))) + 0)))] → W p l e (ag_rm 3 62) s m ([.ref x0] : List Value).toArray below meth c H locs 0 0 (MQ below (va_Qi (po_X5_bestDay cI cC cL x0 h o t1 x1 y1 z1 x2 s0 s01 s02 s03 s1 s11 s12 s13 s2 s21 s22 s23 s3 s31 s32 s33 h1 h2 h3 y2 o1 o2 o3 hf f se to re pf tf ch of ose oto ore kf sf sse sto sre a N hq) (ag_Out D [oX x0 h o t1 x1 y1 z1, oH x1 x2 hf, aL cL x2 (gS s0 s1 s2 s3), oL s0 s01 s02 s03 (sf 0), aI cI s01 3 (sse 0), aI cI s02 7 (sto 0), aI cI s03 60 (sre 0), oL s1 s11 s12 s13 (sf 1), aI cI s11 3 (sse 1), aI cI s12 7 (sto 1), aI cI s13 60 (sre 1), oL s2 s21 s22 s23 (sf 2), aI cI s21 3 (sse 2), aI cI s22 7 (sto 2), aI cI s23 60 (sre 2), oL s3 s31 s32 s33 (sf 3), aI cI s31 3 (sse 3), aI cI s32 7 (sto 3), aI cI s33 60 (sre 3), oL h h1 h2 h3 f, aI cI h1 3 se, aI cI h2 7 to, aI cI h3 60 re, oP z1 pf, oT y1 y2 tf, aC cC y2 60 ch, oL o o1 o2 o3 of, aI cI o1 3 ose, aI cI o2 7 oto, aI cI o3 60 ore, oK t1 kf]) A) ([.ref x0] : List Value).toArray s 0 0 A) (F0 m 57 ls []) := by
      intro ls hl
      refine lv_iinc (v := nI ((a + i) + 1)) (lv' := [(4, .int (nI ((a + i) + 1))), (0, .ref x0), (1, .int (l57_1_X5_bestDay re a i fo mo)), (2, .int (l57_2_X5_bestDay re a i mo)), (3, .int (sr_X1_lastDay f)), (5, .int (re ((rs (nI (a + i))) + 0)))]) hx hb dX5_bestDay_57 hl (k := 4) rfl (nI_1 (a + i)) (by decide) rfl (fun ls hl => ?_)
      refine lv_goto (tgt := 22) hx hb dX5_bestDay_60 (by decide) ?_
      exact ih (i + 1) (l57_1_X5_bestDay re a i fo mo) (l57_2_X5_bestDay re a i mo) (by omega) hR H locs ls (lv_sub hl [1, 2, 3, 4, 0] rfl) hP hD hS
    refine lv_icmp_le (tgt := 57) hx hb dX5_bestDay_48 (by decide) (fun c_48 => ?_) (fun c_48 => ?_)
    · simp only [l57_1_X5_bestDay, l57_2_X5_bestDay, if_pos c_48] at J57
      exact J57 _ (lv_sub hl [1, 2, 3, 4, 5, 0] rfl)
    · refine lv_iload hx hb dX5_bestDay_51 (lv_at hl 5 rfl) ?_
      refine lv_istore_n (lv' := [(1, .int (nI (a + i))), (5, .int (re ((rs (nI (a + i))) + 0))), (0, .ref x0), (2, .int mo), (3, .int (sr_X1_lastDay f)), (4, .int (nI (a + i)))]) hx hb dX5_bestDay_53 rfl hl (by decide) rfl (fun ls hl => ?_)
      refine lv_iload hx hb dX5_bestDay_54 (lv_at hl 1 rfl) ?_
      refine lv_istore_n (lv' := [(2, .int (re ((rs (nI (a + i))) + 0))), (1, .int (nI (a + i))), (5, .int (re ((rs (nI (a + i))) + 0))), (0, .ref x0), (3, .int (sr_X1_lastDay f)), (4, .int (nI (a + i)))]) hx hb dX5_bestDay_56 rfl hl (by decide) rfl (fun ls hl => ?_)
      simp only [l57_1_X5_bestDay, l57_2_X5_bestDay, if_neg c_48] at J57
      exact J57 _ (lv_sub hl [3, 1, 0, 4, 5, 2] rfl)
