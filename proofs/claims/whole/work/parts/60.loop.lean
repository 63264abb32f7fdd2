/-! the law: its loop -/
theorem law_lp {L i : Nat} (hL : L ≤ 1536) (hi : i ≤ L) (c : ¬ nI L - 3 < nI i) : i + 3 ≤ L := by
  rw [Int32.lt_iff_toInt_lt, i_sub (b := 3) (nI_toInt (n := L) (by omega)) rfl (by omega) (by omega), nI_toInt (by omega)] at c
  omega
set_option maxHeartbeats 4000000 in
set_option maxRecDepth 100000 in
theorem law_loop {p : Program} {l : Launch} {e : Env} {s : State} {m : MethodId} {below : List Frame} {meth : Method} {c : Code} {D : va_G} {cI cC cL : ClassId} {b L : Nat} {xs : Nat → Int32} {x0 h o t1 x1 y1 z1 x2 s0 s1 s2 s3 s01 s02 s03 s11 s12 s13 s21 s22 s23 s31 s32 s33 h1 h2 h3 y2 o1 o2 o3 m0 m1 m2 m3 m4 m5 m6 : Nat} (hL : L ≤ 1536) (C0 : lw_At p s m meth c b L xs) (hK : va_K D vwCl (ag_T cI cC cL) s) (hN : ag_NZ (fun q => s.heap.size ≤ q) s) : ∀ (n i : Nat), i ≤ L → L < i + n → ∀ (hf f se to re pf tf ch of ose oto ore kf : Nat → Int32) (sf sse sto sre : Nat → Nat → Int32) (mf ms mp mh mt mx md : Nat → Int32), RZ hf f se to re tf ch sf sse sto sre mf ms mp mx → ∀ (H : Heap) (locs : List Loc) (ls : Array Slot), lv_has ls 4 [(0, .ref b), (1, .ref x0), (2, .ref m0), (3, .int (nI i))] → va_P D vwCl [oX x0 h o t1 x1 y1 z1, oH x1 x2 hf, aL cL x2 (gS s0 s1 s2 s3), oL s0 s01 s02 s03 (sf 0), aI cI s01 3 (sse 0), aI cI s02 7 (sto 0), aI cI s03 60 (sre 0), oL s1 s11 s12 s13 (sf 1), aI cI s11 3 (sse 1), aI cI s12 7 (sto 1), aI cI s13 60 (sre 1), oL s2 s21 s22 s23 (sf 2), aI cI s21 3 (sse 2), aI cI s22 7 (sto 2), aI cI s23 60 (sre 2), oL s3 s31 s32 s33 (sf 3), aI cI s31 3 (sse 3), aI cI s32 7 (sto 3), aI cI s33 60 (sre 3), oL h h1 h2 h3 f, aI cI h1 3 se, aI cI h2 7 to, aI cI h3 60 re, oP z1 pf, oT y1 y2 tf, aC cC y2 60 ch, oL o o1 o2 o3 of, aI cI o1 3 ose, aI cI o2 7 oto, aI cI o3 60 ore, oK t1 kf, oM m0 m1 m2 m3 m4 m5 m6 mf, aI cI m1 89 ms, aI cI m2 356 mp, aI cI m3 89 mh, aI cI m4 89 mt, aI cI m5 60 mx, aI cI m6 2 md] H → va_D (fun q : Nat => s.heap.size ≤ q) [oX x0 h o t1 x1 y1 z1, oH x1 x2 hf, aL cL x2 (gS s0 s1 s2 s3), oL s0 s01 s02 s03 (sf 0), aI cI s01 3 (sse 0), aI cI s02 7 (sto 0), aI cI s03 60 (sre 0), oL s1 s11 s12 s13 (sf 1), aI cI s11 3 (sse 1), aI cI s12 7 (sto 1), aI cI s13 60 (sre 1), oL s2 s21 s22 s23 (sf 2), aI cI s21 3 (sse 2), aI cI s22 7 (sto 2), aI cI s23 60 (sre 2), oL s3 s31 s32 s33 (sf 3), aI cI s31 3 (sse 3), aI cI s32 7 (sto 3), aI cI s33 60 (sre 3), oL h h1 h2 h3 f, aI cI h1 3 se, aI cI h2 7 to, aI cI h3 60 re, oP z1 pf, oT y1 y2 tf, aC cC y2 60 ch, oL o o1 o2 o3 of, aI cI o1 3 ose, aI cI o2 7 oto, aI cI o3 60 ore, oK t1 kf, oM m0 m1 m2 m3 m4 m5 m6 mf, aI cI m1 89 ms, aI cI m2 356 mp, aI cI m3 89 mh, aI cI m4 89 mt, aI cI m5 60 mx, aI cI m6 2 md] → va_S (fun q : Nat => s.heap.size ≤ q) s.heap H locs → W p l e room_1 s m #[Value.ref b] below meth c H locs 38 1283 (lw_Z below #[Value.ref b] s) (F0 m 18 ls []) := by
  have C1 := C0
  obtain ⟨hx, hb, hr, hml, hown, hts, hX, hbl, hlocks, hgv⟩ := C0
  have hG := law_hG hts
  have hA : ∀ q : Nat, s.heap.size ≤ q → (fun q : Nat => s.heap.size ≤ q) q := fun _ h => h
  have hbA : ¬ (fun q : Nat => s.heap.size ≤ q) b := Nat.not_le.mpr hbl
  intro n
  induction n with
  | zero =>
    intro i hi hn
    exact absurd hn (by omega)
  | succ n ih =>
    intro i hi hn hf f se to re pf tf ch of ose oto ore kf sf sse sto sre mf ms mp mh mt mx md hz H locs ls hl hP hD hS
    refine lv_iload_n hx hb dL_law_18 rfl (lv_at hl 3 rfl) ?_
    refine lv_aload_n hx hb dL_law_19 rfl (lv_at hl 0 rfl) ?_
    refine va_slen hx hb hX hbl hbA hS dL_law_20 ?_
    refine lv_iconst (v := 3) hx hb dL_law_21 (by decide) ?_
    refine lv_isub hx hb dL_law_22 ?_
    refine lv_icmp_gt (tgt := 685) hx hb dL_law_23 (by decide) (fun c_23 => ?_) (fun c_23 => ?_)
    · refine lv_iconst (v := 1) hx hb dL_law_685 (by decide) ?_
      refine va_forget (fun q hq => hS.2.2 q hq) ?_
      exact W.base (lw_ret (d0 := s.drawn) (Drawn.sameBut.refl s.drawn lw_cs) hx hb hr hlocks dL_law_686)
    · have hi3 := law_lp hL hi c_23
      refine lv_aload_n hx hb dL_law_26 rfl (lv_at hl 0 rfl) ?_
      refine lv_iload_n hx hb dL_law_27 rfl (lv_at hl 3 rfl) ?_
      refine va_sld hx hb hX hbl hbA hS (vp_in_nI (by omega) (by omega)) dL_law_28 ?_
      refine lv_bipush (v := 31) hx hb dL_law_29 (by decide) ?_
      refine lv_iand hx hb dL_law_31 ?_
      refine lv_topi (fun z ez => ?_)
      by_cases c_0 : z = 0
      · refine lv_tableIn (off := 108) (tgt := 140) hx hb dL_law_32 (by rw [c_0]; decide) (by rw [c_0]; decide) (by rw [c_0]; rfl) (by decide) ?_
        exact law_a0 hL C1 hK hN ih hi3 hn hf f se to re pf tf ch of ose oto ore kf sf sse sto sre mf ms mp mh mt mx md hz H locs ls hl hP hD hS
      by_cases c_1 : z = 1
      · refine lv_tableIn (off := 131) (tgt := 163) hx hb dL_law_32 (by rw [c_1]; decide) (by rw [c_1]; decide) (by rw [c_1]; rfl) (by decide) ?_
        exact law_a1 hL C1 hK hN ih hi3 hn hf f se to re pf tf ch of ose oto ore kf sf sse sto sre mf ms mp mh mt mx md hz H locs ls hl hP hD hS
      by_cases c_2 : z = 2
      · refine lv_tableIn (off := 154) (tgt := 186) hx hb dL_law_32 (by rw [c_2]; decide) (by rw [c_2]; decide) (by rw [c_2]; rfl) (by decide) ?_
        exact law_a2 hL C1 hK hN ih hi3 hn hf f se to re pf tf ch of ose oto ore kf sf sse sto sre mf ms mp mh mt mx md hz H locs ls hl hP hD hS
      by_cases c_3 : z = 3
      · refine lv_tableIn (off := 177) (tgt := 209) hx hb dL_law_32 (by rw [c_3]; decide) (by rw [c_3]; decide) (by rw [c_3]; rfl) (by decide) ?_
        exact law_a3 hL C1 hK hN ih hi3 hn hf f se to re pf tf ch of ose oto ore kf sf sse sto sre mf ms mp mh mt mx md hz H locs ls hl hP hD hS
      by_cases c_4 : z = 4
      · refine lv_tableIn (off := 210) (tgt := 242) hx hb dL_law_32 (by rw [c_4]; decide) (by rw [c_4]; decide) (by rw [c_4]; rfl) (by decide) ?_
        exact law_a4 hL C1 hK hN ih hi3 hn hf f se to re pf tf ch of ose oto ore kf sf sse sto sre mf ms mp mh mt mx md hz H locs ls hl hP hD hS
      by_cases c_5 : z = 5
      · refine lv_tableIn (off := 233) (tgt := 265) hx hb dL_law_32 (by rw [c_5]; decide) (by rw [c_5]; decide) (by rw [c_5]; rfl) (by decide) ?_
        exact law_a5 hL C1 hK hN ih hi3 hn hf f se to re pf tf ch of ose oto ore kf sf sse sto sre mf ms mp mh mt mx md hz H locs ls hl hP hD hS
      by_cases c_6 : z = 6
      · refine lv_tableIn (off := 256) (tgt := 288) hx hb dL_law_32 (by rw [c_6]; decide) (by rw [c_6]; decide) (by rw [c_6]; rfl) (by decide) ?_
        exact law_a6 hL C1 hK hN ih hi3 hn hf f se to re pf tf ch of ose oto ore kf sf sse sto sre mf ms mp mh mt mx md hz H locs ls hl hP hD hS
      by_cases c_7 : z = 7
      · refine lv_tableIn (off := 289) (tgt := 321) hx hb dL_law_32 (by rw [c_7]; decide) (by rw [c_7]; decide) (by rw [c_7]; rfl) (by decide) ?_
        exact law_a7 hL C1 hK hN ih hi3 hn hf f se to re pf tf ch of ose oto ore kf sf sse sto sre mf ms mp mh mt mx md hz H locs ls hl hP hD hS
      by_cases c_8 : z = 8
      · refine lv_tableIn (off := 312) (tgt := 344) hx hb dL_law_32 (by rw [c_8]; decide) (by rw [c_8]; decide) (by rw [c_8]; rfl) (by decide) ?_
        exact law_a8 hL C1 hK hN ih hi3 hn hf f se to re pf tf ch of ose oto ore kf sf sse sto sre mf ms mp mh mt mx md hz H locs ls hl hP hD hS
      by_cases c_9 : z = 9
      · refine lv_tableIn (off := 335) (tgt := 367) hx hb dL_law_32 (by rw [c_9]; decide) (by rw [c_9]; decide) (by rw [c_9]; rfl) (by decide) ?_
        exact law_a9 hL C1 hK hN ih hi3 hn hf f se to re pf tf ch of ose oto ore kf sf sse sto sre mf ms mp mh mt mx md hz H locs ls hl hP hD hS
      by_cases c_10 : z = 10
      · refine lv_tableIn (off := 368) (tgt := 400) hx hb dL_law_32 (by rw [c_10]; decide) (by rw [c_10]; decide) (by rw [c_10]; rfl) (by decide) ?_
        exact law_a10 hL C1 hK hN ih hi3 hn hf f se to re pf tf ch of ose oto ore kf sf sse sto sre mf ms mp mh mt mx md hz H locs ls hl hP hD hS
      by_cases c_11 : z = 11
      · refine lv_tableIn (off := 391) (tgt := 423) hx hb dL_law_32 (by rw [c_11]; decide) (by rw [c_11]; decide) (by rw [c_11]; rfl) (by decide) ?_
        exact law_a11 hL C1 hK hN ih hi3 hn hf f se to re pf tf ch of ose oto ore kf sf sse sto sre mf ms mp mh mt mx md hz H locs ls hl hP hD hS
      by_cases c_12 : z = 12
      · refine lv_tableIn (off := 424) (tgt := 456) hx hb dL_law_32 (by rw [c_12]; decide) (by rw [c_12]; decide) (by rw [c_12]; rfl) (by decide) ?_
        exact law_a12 hL C1 hK hN ih hi3 hn hf f se to re pf tf ch of ose oto ore kf sf sse sto sre mf ms mp mh mt mx md hz H locs ls hl hP hD hS
      by_cases c_13 : z = 13
      · refine lv_tableIn (off := 447) (tgt := 479) hx hb dL_law_32 (by rw [c_13]; decide) (by rw [c_13]; decide) (by rw [c_13]; rfl) (by decide) ?_
        exact law_a13 hL C1 hK hN ih hi3 hn hf f se to re pf tf ch of ose oto ore kf sf sse sto sre mf ms mp mh mt mx md hz H locs ls hl hP hD hS
      by_cases c_14 : z = 14
      · refine lv_tableIn (off := 480) (tgt := 512) hx hb dL_law_32 (by rw [c_14]; decide) (by rw [c_14]; decide) (by rw [c_14]; rfl) (by decide) ?_
        exact law_a14 hL C1 hK hN ih hi3 hn hf f se to re pf tf ch of ose oto ore kf sf sse sto sre mf ms mp mh mt mx md hz H locs ls hl hP hD hS
      by_cases c_15 : z = 15
      · refine lv_tableIn (off := 513) (tgt := 545) hx hb dL_law_32 (by rw [c_15]; decide) (by rw [c_15]; decide) (by rw [c_15]; rfl) (by decide) ?_
        exact law_a15 hL C1 hK hN ih hi3 hn hf f se to re pf tf ch of ose oto ore kf sf sse sto sre mf ms mp mh mt mx md hz H locs ls hl hP hD hS
      by_cases c_16 : z = 16
      · refine lv_tableIn (off := 526) (tgt := 558) hx hb dL_law_32 (by rw [c_16]; decide) (by rw [c_16]; decide) (by rw [c_16]; rfl) (by decide) ?_
        exact law_a16 hL C1 hK hN ih hi3 hn hf f se to re pf tf ch of ose oto ore kf sf sse sto sre mf ms mp mh mt mx md hz H locs ls hl hP hD hS
      by_cases c_17 : z = 17
      · refine lv_tableIn (off := 539) (tgt := 571) hx hb dL_law_32 (by rw [c_17]; decide) (by rw [c_17]; decide) (by rw [c_17]; rfl) (by decide) ?_
        exact law_a17 hL C1 hK hN ih hi3 hn hf f se to re pf tf ch of ose oto ore kf sf sse sto sre mf ms mp mh mt mx md hz H locs ls hl hP hD hS
      by_cases c_18 : z = 18
      · refine lv_tableIn (off := 562) (tgt := 594) hx hb dL_law_32 (by rw [c_18]; decide) (by rw [c_18]; decide) (by rw [c_18]; rfl) (by decide) ?_
        exact law_a18 hL C1 hK hN ih hi3 hn hf f se to re pf tf ch of ose oto ore kf sf sse sto sre mf ms mp mh mt mx md hz H locs ls hl hP hD hS
      by_cases c_19 : z = 19
      · refine lv_tableIn (off := 575) (tgt := 607) hx hb dL_law_32 (by rw [c_19]; decide) (by rw [c_19]; decide) (by rw [c_19]; rfl) (by decide) ?_
        exact law_a19 hL C1 hK hN ih hi3 hn hf f se to re pf tf ch of ose oto ore kf sf sse sto sre mf ms mp mh mt mx md hz H locs ls hl hP hD hS
      by_cases c_20 : z = 20
      · refine lv_tableIn (off := 598) (tgt := 630) hx hb dL_law_32 (by rw [c_20]; decide) (by rw [c_20]; decide) (by rw [c_20]; rfl) (by decide) ?_
        exact law_a20 hL C1 hK hN ih hi3 hn hf f se to re pf tf ch of ose oto ore kf sf sse sto sre mf ms mp mh mt mx md hz H locs ls hl hP hD hS
      by_cases c_21 : z = 21
      · refine lv_tableIn (off := 611) (tgt := 643) hx hb dL_law_32 (by rw [c_21]; decide) (by rw [c_21]; decide) (by rw [c_21]; rfl) (by decide) ?_
        exact law_a21 hL C1 hK hN ih hi3 hn hf f se to re pf tf ch of ose oto ore kf sf sse sto sre mf ms mp mh mt mx md hz H locs ls hl hP hD hS
      by_cases c_22 : z = 22
      · refine lv_tableIn (off := 634) (tgt := 666) hx hb dL_law_32 (by rw [c_22]; decide) (by rw [c_22]; decide) (by rw [c_22]; rfl) (by decide) ?_
        exact law_a22 hL C1 hK hN ih hi3 hn hf f se to re pf tf ch of ose oto ore kf sf sse sto sre mf ms mp mh mt mx md hz H locs ls hl hP hD hS
      refine lv_tableOut (tgt := 679) hx hb dL_law_32 (by have h0 := lv_neT c_0 (a := 0) rfl; have h1 := lv_neT c_1 (a := 1) rfl; have h2 := lv_neT c_2 (a := 2) rfl; have h3 := lv_neT c_3 (a := 3) rfl; have h4 := lv_neT c_4 (a := 4) rfl; have h5 := lv_neT c_5 (a := 5) rfl; have h6 := lv_neT c_6 (a := 6) rfl; have h7 := lv_neT c_7 (a := 7) rfl; have h8 := lv_neT c_8 (a := 8) rfl; have h9 := lv_neT c_9 (a := 9) rfl; have h10 := lv_neT c_10 (a := 10) rfl; have h11 := lv_neT c_11 (a := 11) rfl; have h12 := lv_neT c_12 (a := 12) rfl; have h13 := lv_neT c_13 (a := 13) rfl; have h14 := lv_neT c_14 (a := 14) rfl; have h15 := lv_neT c_15 (a := 15) rfl; have h16 := lv_neT c_16 (a := 16) rfl; have h17 := lv_neT c_17 (a := 17) rfl; have h18 := lv_neT c_18 (a := 18) rfl; have h19 := lv_neT c_19 (a := 19) rfl; have h20 := lv_neT c_20 (a := 20) rfl; have h21 := lv_neT c_21 (a := 21) rfl; have h22 := lv_neT c_22 (a := 22) rfl; omega) (by decide) ?_
      refine lv_iinc (v := nI (i + 3)) (lv' := [(3, .int (nI (i + 3))), (0, .ref b), (1, .ref x0), (2, .ref m0)]) hx hb dL_law_679 hl (k := 3) rfl (nI_add i 3) (by decide) rfl (fun ls hl => ?_)
      refine lv_goto (tgt := 18) hx hb dL_law_682 (by decide) ?_
      exact ih (i + 3) (by omega) (by omega) hf f se to re pf tf ch of ose oto ore kf sf sse sto sre mf ms mp mh mt mx md hz H locs ls (lv_sub hl [1, 2, 3, 0] rfl) hP hD hS
