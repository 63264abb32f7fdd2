/-! the law, from its rows filled on -/
theorem ct_in {hf f se to tf : Nat → Int32} {p : Int32} (h : (9 < p ∧ p < 20) ∨ 23 ≤ p) : sr_X5_count hf f se to tf p = -1000000001 := by
  have e : ∀ x : Int32, x = 9 ∨ x = 8 ∨ x = 7 → ¬ ((9 < x ∧ x < 20) ∨ 23 ≤ x) := fun x hx => by
    rcases hx with rfl | rfl | rfl
    · decide
    · decide
    · decide
  have n7 : ¬ p = 7 := fun c => e p (Or.inr (Or.inr c)) h
  have n8 : ¬ p = 8 := fun c => e p (Or.inr (Or.inl c)) h
  have n9 : ¬ p = 9 := fun c => e p (Or.inl c) h
  have t9 : (9 : Int32).toInt = 9 := rfl
  have t7 : (7 : Int32).toInt = 7 := rfl
  have t20 : (20 : Int32).toInt = 20 := rfl
  have t23 : (23 : Int32).toInt = 23 := rfl
  have t0 : (0 : Int32).toInt = 0 := rfl
  have c0 : ¬ p < 0 := by
    rw [Int32.lt_iff_toInt_lt, t0]
    rcases h with ⟨h1, h2⟩ | h
    · rw [Int32.lt_iff_toInt_lt, t9] at h1; omega
    · rw [Int32.le_iff_toInt_le, t23] at h; omega
  have c7 : 7 ≤ p := by
    rw [Int32.le_iff_toInt_le, t7]
    rcases h with ⟨h1, h2⟩ | h
    · rw [Int32.lt_iff_toInt_lt, t9] at h1; omega
    · rw [Int32.le_iff_toInt_le, t23] at h; omega
  unfold sr_X5_count
  rw [if_neg c0, if_pos c7]
  rcases h with ⟨h1, h2⟩ | h
  · rw [if_pos h2, if_neg n7, if_neg n8, if_neg n9]
  · have c20 : ¬ p < 20 := by
      rw [Int32.le_iff_toInt_le, t23] at h
      rw [Int32.lt_iff_toInt_lt, t20]
      omega
    rw [if_neg c20, if_pos h, if_neg n7, if_neg n8, if_neg n9]
def j145_0_L_law (i : Nat) : Int32 := if (nI i) = 0 then 0 else if (nI i) = 1 then 6 else 10
set_option maxHeartbeats 4000000 in
set_option maxRecDepth 100000 in
theorem law_go {p : Program} {l : Launch} {e : Env} {s : State} {m : MethodId} {below : List Frame} {meth : Method} {c : Code} {D : va_G} {cI cC cL : ClassId} {b L : Nat} {xs : Nat → Int32} {x0 h o t1 x1 y1 z1 x2 s0 s01 s02 s03 s1 s11 s12 s13 s2 s21 s22 s23 s3 s31 s32 s33 h1 h2 h3 y2 o1 o2 o3 ag ar ad : Nat} {A : Nat → Prop} (hL : L ≤ 260) (C0 : lw_At p s m meth c b L xs) (hK : va_K D vwCl (ag_T cI cC cL) s) (hN : ag_NZ A s) (hA : ∀ q, s.heap.size ≤ q → A q) (hA2 : ∀ q, A q → s.heap.size ≤ q)
    (hf f se to re pf tf ch of ose oto ore kf ug ur ud : Nat → Int32) (sf sse sto sre : Nat → Nat → Int32) (hZ : PQ f se to re tf ug ur ud) (hf0 : sr_X5_now f 0 = 0) (H : Heap) (locs : List Loc) (ls : Array Slot) (hl : lv_has ls 8 [(0, .ref b), (1, .ref x0), (2, .ref ag), (3, .ref ar), (4, .ref ad)]) (hP : va_P D vwCl [oX x0 h o t1 x1 y1 z1, oH x1 x2 hf, aL cL x2 (gS s0 s1 s2 s3), oL s0 s01 s02 s03 (sf 0), aI cI s01 3 (sse 0), aI cI s02 7 (sto 0), aI cI s03 60 (sre 0), oL s1 s11 s12 s13 (sf 1), aI cI s11 3 (sse 1), aI cI s12 7 (sto 1), aI cI s13 60 (sre 1), oL s2 s21 s22 s23 (sf 2), aI cI s21 3 (sse 2), aI cI s22 7 (sto 2), aI cI s23 60 (sre 2), oL s3 s31 s32 s33 (sf 3), aI cI s31 3 (sse 3), aI cI s32 7 (sto 3), aI cI s33 60 (sre 3), oL h h1 h2 h3 f, aI cI h1 3 se, aI cI h2 7 to, aI cI h3 60 re, oP z1 pf, oT y1 y2 tf, aC cC y2 60 ch, oL o o1 o2 o3 of, aI cI o1 3 ose, aI cI o2 7 oto, aI cI o3 60 ore, oK t1 kf, aI cI ag 18 ug, aI cI ar 60 ur, aI cI ad 10 ud] H) (hD : va_D A [oX x0 h o t1 x1 y1 z1, oH x1 x2 hf, aL cL x2 (gS s0 s1 s2 s3), oL s0 s01 s02 s03 (sf 0), aI cI s01 3 (sse 0), aI cI s02 7 (sto 0), aI cI s03 60 (sre 0), oL s1 s11 s12 s13 (sf 1), aI cI s11 3 (sse 1), aI cI s12 7 (sto 1), aI cI s13 60 (sre 1), oL s2 s21 s22 s23 (sf 2), aI cI s21 3 (sse 2), aI cI s22 7 (sto 2), aI cI s23 60 (sre 2), oL s3 s31 s32 s33 (sf 3), aI cI s31 3 (sse 3), aI cI s32 7 (sto 3), aI cI s33 60 (sre 3), oL h h1 h2 h3 f, aI cI h1 3 se, aI cI h2 7 to, aI cI h3 60 re, oP z1 pf, oT y1 y2 tf, aC cC y2 60 ch, oL o o1 o2 o3 of, aI cI o1 3 ose, aI cI o2 7 oto, aI cI o3 60 ore, oK t1 kf, aI cI ag 18 ug, aI cI ar 60 ur, aI cI ad 10 ud]) (hS : va_S A s.heap H locs) :
    W p l e room_1 s m #[Value.ref b] below meth c H locs 100 3000 (lw_Z below #[Value.ref b] s) (F0 m 70 ls []) := by
  obtain ⟨hx, hb, hr, hml, hown, hts, hX, hbl, hlocks, hgv⟩ := C0
  have hG := law_hG hts
  have hbA : ¬ A b := fun h => absurd (hA2 b h) (Nat.not_le.mpr hbl)
  refine lv_aload_n hx hb dL_law_70 rfl (lv_at hl 1 rfl) ?_
  refine lv_iconst (v := 0) hx hb dL_law_71 (by decide) ?_
  refine ag_callVi (As := [.int 0]) (rest := []) hx hb hml hown hG hK hN hA hP hD hS hl (ct_X5_now l D cI cC cL x0 h o t1 x1 y1 z1 x2 s0 s01 s02 s03 s1 s11 s12 s13 s2 s21 s22 s23 s3 s31 s32 s33 h1 h2 h3 y2 o1 o2 o3 hf f se to re pf tf ch of ose oto ore kf 0 sf sse sto sre) fX5_now k_195 (ag_cut_1 [] [aI cI ag 18 ug, aI cI ar 60 ur, aI cI ad 10 ud] rfl) (q0 := 0) rfl rfl rfl rfl (Nat.le_of_ble_eq_true rfl) ⟨Nat.le_of_ble_eq_true rfl, Nat.le_of_ble_eq_true rfl⟩ ⟨(by show 100 ≤ 600000; omega), (by show 3000 ≤ 7302250; omega)⟩ dL_law_72 (fun r w1 H locs hw hP hD hS => ?_)
  obtain ⟨rfl, hw⟩ := hw
  subst hw
  have hP : va_P D vwCl [oX x0 h o t1 x1 y1 z1, oH x1 x2 hf, aL cL x2 (gS s0 s1 s2 s3), oL s0 s01 s02 s03 (sf 0), aI cI s01 3 (sse 0), aI cI s02 7 (sto 0), aI cI s03 60 (sre 0), oL s1 s11 s12 s13 (sf 1), aI cI s11 3 (sse 1), aI cI s12 7 (sto 1), aI cI s13 60 (sre 1), oL s2 s21 s22 s23 (sf 2), aI cI s21 3 (sse 2), aI cI s22 7 (sto 2), aI cI s23 60 (sre 2), oL s3 s31 s32 s33 (sf 3), aI cI s31 3 (sse 3), aI cI s32 7 (sto 3), aI cI s33 60 (sre 3), oL h h1 h2 h3 f, aI cI h1 3 se, aI cI h2 7 to, aI cI h3 60 re, oP z1 pf, oT y1 y2 tf, aC cC y2 60 ch, oL o o1 o2 o3 of, aI cI o1 3 ose, aI cI o2 7 oto, aI cI o3 60 ore, oK t1 kf, aI cI ag 18 ug, aI cI ar 60 ur, aI cI ad 10 ud] H := hP
  have hD : va_D A [oX x0 h o t1 x1 y1 z1, oH x1 x2 hf, aL cL x2 (gS s0 s1 s2 s3), oL s0 s01 s02 s03 (sf 0), aI cI s01 3 (sse 0), aI cI s02 7 (sto 0), aI cI s03 60 (sre 0), oL s1 s11 s12 s13 (sf 1), aI cI s11 3 (sse 1), aI cI s12 7 (sto 1), aI cI s13 60 (sre 1), oL s2 s21 s22 s23 (sf 2), aI cI s21 3 (sse 2), aI cI s22 7 (sto 2), aI cI s23 60 (sre 2), oL s3 s31 s32 s33 (sf 3), aI cI s31 3 (sse 3), aI cI s32 7 (sto 3), aI cI s33 60 (sre 3), oL h h1 h2 h3 f, aI cI h1 3 se, aI cI h2 7 to, aI cI h3 60 re, oP z1 pf, oT y1 y2 tf, aC cC y2 60 ch, oL o o1 o2 o3 of, aI cI o1 3 ose, aI cI o2 7 oto, aI cI o3 60 ore, oK t1 kf, aI cI ag 18 ug, aI cI ar 60 ur, aI cI ad 10 ud] := hD
  refine lv_if_ne (tgt := 82) hx hb dL_law_75 (by decide) (fun h0 => absurd h0 (not_not_intro hf0)) (fun _ => ?_)
  refine lv_iconst (v := 1) hx hb dL_law_78 (by decide) ?_
  refine lv_goto (tgt := 83) hx hb dL_law_79 (by decide) ?_
  refine lv_istore (lv' := [(5, .int 1), (0, .ref b), (1, .ref x0), (2, .ref ag), (3, .ref ar), (4, .ref ad)]) hx hb dL_law_83 hl (by decide) rfl (fun ls hl => ?_)
  refine lv_iconst (v := 0) hx hb dL_law_85 (by decide) ?_
  refine lv_istore (lv' := [(6, .int 0), (5, .int 1), (0, .ref b), (1, .ref x0), (2, .ref ag), (3, .ref ar), (4, .ref ad)]) hx hb dL_law_86 hl (by decide) rfl (fun ls hl => ?_)
  suffices L88 : ∀ (n : Nat) (i : Nat) (hfA fA seA toA reA pfA tfA chA ofA oseA otoA oreA kfA ugA urA udA : Nat → Int32) (sfA sseA stoA sreA : Nat → Nat → Int32), (hi : i + n = 3) → (hZ : PQ fA seA toA reA tfA ugA urA udA) → ∀ (H : Heap) (locs : List Loc) (ls : Array Slot), lv_has ls 8 [(0, .ref b), (1, .ref x0), (2, .ref ag), (3, .ref ar), (4, .ref ad), (5, .int 1), (6, .int (nI i))] → va_P D vwCl [oX x0 h o t1 x1 y1 z1, oH x1 x2 hfA, aL cL x2 (gS s0 s1 s2 s3), oL s0 s01 s02 s03 (sfA 0), aI cI s01 3 (sseA 0), aI cI s02 7 (stoA 0), aI cI s03 60 (sreA 0), oL s1 s11 s12 s13 (sfA 1), aI cI s11 3 (sseA 1), aI cI s12 7 (stoA 1), aI cI s13 60 (sreA 1), oL s2 s21 s22 s23 (sfA 2), aI cI s21 3 (sseA 2), aI cI s22 7 (stoA 2), aI cI s23 60 (sreA 2), oL s3 s31 s32 s33 (sfA 3), aI cI s31 3 (sseA 3), aI cI s32 7 (stoA 3), aI cI s33 60 (sreA 3), oL h h1 h2 h3 fA, aI cI h1 3 seA, aI cI h2 7 toA, aI cI h3 60 reA, oP z1 pfA, oT y1 y2 tfA, aC cC y2 60 chA, oL o o1 o2 o3 ofA, aI cI o1 3 oseA, aI cI o2 7 otoA, aI cI o3 60 oreA, oK t1 kfA, aI cI ag 18 ugA, aI cI ar 60 urA, aI cI ad 10 udA] H → va_D A [oX x0 h o t1 x1 y1 z1, oH x1 x2 hfA, aL cL x2 (gS s0 s1 s2 s3), oL s0 s01 s02 s03 (sfA 0), aI cI s01 3 (sseA 0), aI cI s02 7 (stoA 0), aI cI s03 60 (sreA 0), oL s1 s11 s12 s13 (sfA 1), aI cI s11 3 (sseA 1), aI cI s12 7 (stoA 1), aI cI s13 60 (sreA 1), oL s2 s21 s22 s23 (sfA 2), aI cI s21 3 (sseA 2), aI cI s22 7 (stoA 2), aI cI s23 60 (sreA 2), oL s3 s31 s32 s33 (sfA 3), aI cI s31 3 (sseA 3), aI cI s32 7 (stoA 3), aI cI s33 60 (sreA 3), oL h h1 h2 h3 fA, aI cI h1 3 seA, aI cI h2 7 toA, aI cI h3 60 reA, oP z1 pfA, oT y1 y2 tfA, aC cC y2 60 chA, oL o o1 o2 o3 ofA, aI cI o1 3 oseA, aI cI o2 7 otoA, aI cI o3 60 oreA, oK t1 kfA, aI cI ag 18 ugA, aI cI ar 60 urA, aI cI ad 10 udA] → va_S A s.heap H locs → W p l e room_1 s m #[Value.ref b] below meth c H locs (100 + i) (3000 + 7 * i) (lw_Z below #[Value.ref b] s) (F0 m 88 ls []) from L88 3 0 hf f se to re pf tf ch of ose oto ore kf ug ur ud sf sse sto sre (by omega) hZ H locs ls (lv_sub hl [2, 3, 4, 5, 6, 1, 0] rfl) hP hD hS
  intro n
  induction n with
  | zero =>
    intro i hfA fA seA toA reA pfA tfA chA ofA oseA otoA oreA kfA ugA urA udA sfA sseA stoA sreA hi hZ H locs ls hl hP hD hS
    refine lv_iload hx hb dL_law_88 (lv_at hl 6 rfl) ?_
    refine lv_iconst (v := 3) hx hb dL_law_90 (by decide) ?_
    refine lv_icmp_ge (tgt := 157) hx hb dL_law_91 (by decide) (fun _ => ?_) (fun h0 => absurd ((nI_leI (a := 3) (by decide) (by omega)).mpr (by omega)) h0)
    refine lv_iload hx hb dL_law_157 (lv_at hl 5 rfl) ?_
    refine lv_if_eq (tgt := 177) hx hb dL_law_159 (by decide) (fun h0 => absurd h0 (by decide)) (fun _ => ?_)
    refine lv_aload_n hx hb dL_law_162 rfl (lv_at hl 1 rfl) ?_
    refine lv_aload_n hx hb dL_law_163 rfl (lv_at hl 2 rfl) ?_
    refine lv_aload_n hx hb dL_law_164 rfl (lv_at hl 3 rfl) ?_
    refine lv_aload hx hb dL_law_165 (lv_at hl 4 rfl) ?_
    refine ag_callSin (As := [.ref x0, .ref ag, .ref ar, .ref ad]) (rest := []) hx hb hml hown hG hK hN hA hP hD hS hl (ct_L_isSo l D cI cC cL x0 ag ar ad h o t1 x1 y1 z1 x2 s0 s01 s02 s03 s1 s11 s12 s13 s2 s21 s22 s23 s3 s31 s32 s33 h1 h2 h3 y2 o1 o2 o3 hfA fA seA toA reA pfA tfA chA ofA oseA otoA oreA kfA ugA urA udA sfA sseA stoA sreA hZ) fL_isSo k_400 ag_cut_all rfl (Nat.le_of_ble_eq_true rfl) ⟨Nat.le_of_ble_eq_true rfl, Nat.le_of_ble_eq_true rfl⟩ ⟨(by show (100 + i) + 1 ≤ 600000; omega), (by show (3000 + 7 * i) + 7 ≤ 7302250; omega)⟩ dL_law_167 (fun r w1 H locs hw hP hD hS => ?_)
    obtain ⟨rfl, kf167, hw⟩ := hw
    subst hw
    have hP : va_P D vwCl [oX x0 h o t1 x1 y1 z1, oH x1 x2 hfA, aL cL x2 (gS s0 s1 s2 s3), oL s0 s01 s02 s03 (sfA 0), aI cI s01 3 (sseA 0), aI cI s02 7 (stoA 0), aI cI s03 60 (sreA 0), oL s1 s11 s12 s13 (sfA 1), aI cI s11 3 (sseA 1), aI cI s12 7 (stoA 1), aI cI s13 60 (sreA 1), oL s2 s21 s22 s23 (sfA 2), aI cI s21 3 (sseA 2), aI cI s22 7 (stoA 2), aI cI s23 60 (sreA 2), oL s3 s31 s32 s33 (sfA 3), aI cI s31 3 (sseA 3), aI cI s32 7 (stoA 3), aI cI s33 60 (sreA 3), oL h h1 h2 h3 fA, aI cI h1 3 seA, aI cI h2 7 toA, aI cI h3 60 reA, oP z1 pfA, oT y1 y2 tfA, aC cC y2 60 chA, oL o o1 o2 o3 ofA, aI cI o1 3 oseA, aI cI o2 7 otoA, aI cI o3 60 oreA, oK t1 kf167, aI cI ag 18 ugA, aI cI ar 60 urA, aI cI ad 10 udA] H := hP
    have hD : va_D A [oX x0 h o t1 x1 y1 z1, oH x1 x2 hfA, aL cL x2 (gS s0 s1 s2 s3), oL s0 s01 s02 s03 (sfA 0), aI cI s01 3 (sseA 0), aI cI s02 7 (stoA 0), aI cI s03 60 (sreA 0), oL s1 s11 s12 s13 (sfA 1), aI cI s11 3 (sseA 1), aI cI s12 7 (stoA 1), aI cI s13 60 (sreA 1), oL s2 s21 s22 s23 (sfA 2), aI cI s21 3 (sseA 2), aI cI s22 7 (stoA 2), aI cI s23 60 (sreA 2), oL s3 s31 s32 s33 (sfA 3), aI cI s31 3 (sseA 3), aI cI s32 7 (stoA 3), aI cI s33 60 (sreA 3), oL h h1 h2 h3 fA, aI cI h1 3 seA, aI cI h2 7 toA, aI cI h3 60 reA, oP z1 pfA, oT y1 y2 tfA, aC cC y2 60 chA, oL o o1 o2 o3 ofA, aI cI o1 3 oseA, aI cI o2 7 otoA, aI cI o3 60 oreA, oK t1 kf167, aI cI ag 18 ugA, aI cI ar 60 urA, aI cI ad 10 udA] := hD
    refine lv_if_eq (tgt := 177) hx hb dL_law_170 (by decide) (fun h0 => absurd h0 (by decide)) (fun _ => ?_)
    refine lv_iconst (v := 1) hx hb dL_law_173 (by decide) ?_
    refine lv_goto (tgt := 178) hx hb dL_law_174 (by decide) ?_
    refine lv_istore (lv' := [(5, .int 1), (0, .ref b), (1, .ref x0), (2, .ref ag), (3, .ref ar), (4, .ref ad), (6, .int (nI i))]) hx hb dL_law_178 hl (by decide) rfl (fun ls hl => ?_)
    refine lv_bipush (v := 12) hx hb dL_law_180 (by decide) ?_
    refine lv_aload_n hx hb dL_law_182 rfl (lv_at hl 1 rfl) ?_
    refine lv_iconst (v := 0) hx hb dL_law_183 (by decide) ?_
    refine ag_callX (As := [.ref b, .int (0)]) (rest := [.int 12]) hx hb hml hown hG hK hN hA hX hbl hbA hP hD hS hl (ct_L_cell l D cI cC cL b L xs 0 hL (by omega)) fL_cell k_239 rfl (Nat.le_of_ble_eq_true rfl) ⟨Nat.le_of_ble_eq_true rfl, Nat.le_of_ble_eq_true rfl⟩ ⟨(by show ((100 + i) + 1) ≤ 600000; omega), (by show ((3000 + 7 * i) + 7) ≤ 7302250; omega)⟩ dL_law_184 (fun v184 H locs hP hD hS => ?_)
    refine lv_bipush (v := 56) hx hb dL_law_187 (by decide) ?_
    refine ag_callSi (As := [.int v184, .int 56]) (rest := [.int 12]) hx hb hml hown hG hK hN hA hP hD hS hl (ct_L_low l D cI cC cL v184 56 (by decide)) fL_low k_243 ag_cut_0 rfl (Nat.le_of_ble_eq_true rfl) ⟨Nat.le_of_ble_eq_true rfl, Nat.le_of_ble_eq_true rfl⟩ ⟨(by show ((100 + i) + 1) ≤ 600000; omega), (by show ((3000 + 7 * i) + 7) ≤ 7302250; omega)⟩ dL_law_189 (fun r w1 H locs hw hP hD hS => ?_)
    obtain ⟨rfl, hw⟩ := hw
    subst hw
    have hP : va_P D vwCl [oX x0 h o t1 x1 y1 z1, oH x1 x2 hfA, aL cL x2 (gS s0 s1 s2 s3), oL s0 s01 s02 s03 (sfA 0), aI cI s01 3 (sseA 0), aI cI s02 7 (stoA 0), aI cI s03 60 (sreA 0), oL s1 s11 s12 s13 (sfA 1), aI cI s11 3 (sseA 1), aI cI s12 7 (stoA 1), aI cI s13 60 (sreA 1), oL s2 s21 s22 s23 (sfA 2), aI cI s21 3 (sseA 2), aI cI s22 7 (stoA 2), aI cI s23 60 (sreA 2), oL s3 s31 s32 s33 (sfA 3), aI cI s31 3 (sseA 3), aI cI s32 7 (stoA 3), aI cI s33 60 (sreA 3), oL h h1 h2 h3 fA, aI cI h1 3 seA, aI cI h2 7 toA, aI cI h3 60 reA, oP z1 pfA, oT y1 y2 tfA, aC cC y2 60 chA, oL o o1 o2 o3 ofA, aI cI o1 3 oseA, aI cI o2 7 otoA, aI cI o3 60 oreA, oK t1 kf167, aI cI ag 18 ugA, aI cI ar 60 urA, aI cI ad 10 udA] H := hP
    have hD : va_D A [oX x0 h o t1 x1 y1 z1, oH x1 x2 hfA, aL cL x2 (gS s0 s1 s2 s3), oL s0 s01 s02 s03 (sfA 0), aI cI s01 3 (sseA 0), aI cI s02 7 (stoA 0), aI cI s03 60 (sreA 0), oL s1 s11 s12 s13 (sfA 1), aI cI s11 3 (sseA 1), aI cI s12 7 (stoA 1), aI cI s13 60 (sreA 1), oL s2 s21 s22 s23 (sfA 2), aI cI s21 3 (sseA 2), aI cI s22 7 (stoA 2), aI cI s23 60 (sreA 2), oL s3 s31 s32 s33 (sfA 3), aI cI s31 3 (sseA 3), aI cI s32 7 (stoA 3), aI cI s33 60 (sreA 3), oL h h1 h2 h3 fA, aI cI h1 3 seA, aI cI h2 7 toA, aI cI h3 60 reA, oP z1 pfA, oT y1 y2 tfA, aC cC y2 60 chA, oL o o1 o2 o3 ofA, aI cI o1 3 oseA, aI cI o2 7 otoA, aI cI o3 60 oreA, oK t1 kf167, aI cI ag 18 ugA, aI cI ar 60 urA, aI cI ad 10 udA] := hD
    obtain ⟨u, hu, eu⟩ := low_in v184 56 (n := 56) (by decide) (by decide) rfl
    refine ag_tope (nI u) eu ?_
    refine lv_iadd hx hb dL_law_192 ?_
    refine ag_tope (nI (12 + u)) (nI_add 12 _) ?_
    refine lv_istore (lv' := [(6, .int (nI (12 + u))), (5, .int 1), (0, .ref b), (1, .ref x0), (2, .ref ag), (3, .ref ar), (4, .ref ad)]) hx hb dL_law_193 hl (by decide) rfl (fun ls hl => ?_)
    refine lv_iconst (v := 0) hx hb dL_law_195 (by decide) ?_
    refine lv_istore (lv' := [(7, .int 0), (6, .int (nI (12 + u))), (5, .int 1), (0, .ref b), (1, .ref x0), (2, .ref ag), (3, .ref ar), (4, .ref ad)]) hx hb dL_law_196 hl (by decide) rfl (fun ls hl => ?_)
    refine W.widen (k := 200) (n := 4000) (by omega) (by omega) ?_
    suffices L198 : ∀ (n : Nat) (i : Nat) (hfB fB seB toB reB pfB tfB chB ofB oseB otoB oreB kfB ugB urB udB : Nat → Int32) (sfB sseB stoB sreB : Nat → Nat → Int32), (hi : i + n = 12 + u) → (hZ : PQ fB seB toB reB tfB ugB urB udB) → ∀ (H : Heap) (locs : List Loc) (ls : Array Slot), lv_has ls 8 [(0, .ref b), (1, .ref x0), (2, .ref ag), (3, .ref ar), (4, .ref ad), (5, .int 1), (6, .int (nI (12 + u))), (7, .int (nI i))] → va_P D vwCl [oX x0 h o t1 x1 y1 z1, oH x1 x2 hfB, aL cL x2 (gS s0 s1 s2 s3), oL s0 s01 s02 s03 (sfB 0), aI cI s01 3 (sseB 0), aI cI s02 7 (stoB 0), aI cI s03 60 (sreB 0), oL s1 s11 s12 s13 (sfB 1), aI cI s11 3 (sseB 1), aI cI s12 7 (stoB 1), aI cI s13 60 (sreB 1), oL s2 s21 s22 s23 (sfB 2), aI cI s21 3 (sseB 2), aI cI s22 7 (stoB 2), aI cI s23 60 (sreB 2), oL s3 s31 s32 s33 (sfB 3), aI cI s31 3 (sseB 3), aI cI s32 7 (stoB 3), aI cI s33 60 (sreB 3), oL h h1 h2 h3 fB, aI cI h1 3 seB, aI cI h2 7 toB, aI cI h3 60 reB, oP z1 pfB, oT y1 y2 tfB, aC cC y2 60 chB, oL o o1 o2 o3 ofB, aI cI o1 3 oseB, aI cI o2 7 otoB, aI cI o3 60 oreB, oK t1 kfB, aI cI ag 18 ugB, aI cI ar 60 urB, aI cI ad 10 udB] H → va_D A [oX x0 h o t1 x1 y1 z1, oH x1 x2 hfB, aL cL x2 (gS s0 s1 s2 s3), oL s0 s01 s02 s03 (sfB 0), aI cI s01 3 (sseB 0), aI cI s02 7 (stoB 0), aI cI s03 60 (sreB 0), oL s1 s11 s12 s13 (sfB 1), aI cI s11 3 (sseB 1), aI cI s12 7 (stoB 1), aI cI s13 60 (sreB 1), oL s2 s21 s22 s23 (sfB 2), aI cI s21 3 (sseB 2), aI cI s22 7 (stoB 2), aI cI s23 60 (sreB 2), oL s3 s31 s32 s33 (sfB 3), aI cI s31 3 (sseB 3), aI cI s32 7 (stoB 3), aI cI s33 60 (sreB 3), oL h h1 h2 h3 fB, aI cI h1 3 seB, aI cI h2 7 toB, aI cI h3 60 reB, oP z1 pfB, oT y1 y2 tfB, aC cC y2 60 chB, oL o o1 o2 o3 ofB, aI cI o1 3 oseB, aI cI o2 7 otoB, aI cI o3 60 oreB, oK t1 kfB, aI cI ag 18 ugB, aI cI ar 60 urB, aI cI ad 10 udB] → va_S A s.heap H locs → W p l e room_1 s m #[Value.ref b] below meth c H locs (200 + 2 * i) (4000 + 14 * i) (lw_Z below #[Value.ref b] s) (F0 m 198 ls []) from L198 (12 + u) 0 hfA fA seA toA reA pfA tfA chA ofA oseA otoA oreA kf167 ugA urA udA sfA sseA stoA sreA (by omega) hZ H locs ls (lv_sub hl [3, 4, 5, 6, 7, 2, 1, 0] rfl) hP hD hS
    intro n
    induction n with
    | zero =>
      intro i hfB fB seB toB reB pfB tfB chB ofB oseB otoB oreB kfB ugB urB udB sfB sseB stoB sreB hi hZ H locs ls hl hP hD hS
      refine lv_iload hx hb dL_law_198 (lv_at hl 7 rfl) ?_
      refine lv_iload hx hb dL_law_200 (lv_at hl 6 rfl) ?_
      refine lv_icmp_ge (tgt := 260) hx hb dL_law_202 (by decide) (fun _ => ?_) (fun h0 => absurd ((nI_leI (by omega) (by omega)).mpr (by omega)) h0)
      refine lv_iload hx hb dL_law_260 (lv_at hl 5 rfl) ?_
      refine lv_if_eq (tgt := 302) hx hb dL_law_262 (by decide) (fun h0 => absurd h0 (by decide)) (fun _ => ?_)
      refine lv_aload_n hx hb dL_law_265 rfl (lv_at hl 1 rfl) ?_
      refine lv_bipush (v := 10) hx hb dL_law_266 (by decide) ?_
      refine ag_callVi (As := [.int 10]) (rest := []) hx hb hml hown hG hK hN hA hP hD hS hl (ct_X5_count l D cI cC cL x0 h o t1 x1 y1 z1 x2 s0 s01 s02 s03 s1 s11 s12 s13 s2 s21 s22 s23 s3 s31 s32 s33 h1 h2 h3 y2 o1 o2 o3 hfB fB seB toB reB pfB tfB chB ofB oseB otoB oreB kfB 10 sfB sseB stoB sreB) fX5_count k_220 (ag_cut_1 [] [aI cI ag 18 ugB, aI cI ar 60 urB, aI cI ad 10 udB] rfl) (q0 := 0) rfl rfl rfl rfl (Nat.le_of_ble_eq_true rfl) ⟨Nat.le_of_ble_eq_true rfl, Nat.le_of_ble_eq_true rfl⟩ ⟨(by show (200 + 2 * i) ≤ 600000; omega), (by show (4000 + 14 * i) ≤ 7302250; omega)⟩ dL_law_268 (fun r w1 H locs hw hP hD hS => ?_)
      obtain ⟨rfl, hw⟩ := hw
      subst hw
      have hP : va_P D vwCl [oX x0 h o t1 x1 y1 z1, oH x1 x2 hfB, aL cL x2 (gS s0 s1 s2 s3), oL s0 s01 s02 s03 (sfB 0), aI cI s01 3 (sseB 0), aI cI s02 7 (stoB 0), aI cI s03 60 (sreB 0), oL s1 s11 s12 s13 (sfB 1), aI cI s11 3 (sseB 1), aI cI s12 7 (stoB 1), aI cI s13 60 (sreB 1), oL s2 s21 s22 s23 (sfB 2), aI cI s21 3 (sseB 2), aI cI s22 7 (stoB 2), aI cI s23 60 (sreB 2), oL s3 s31 s32 s33 (sfB 3), aI cI s31 3 (sseB 3), aI cI s32 7 (stoB 3), aI cI s33 60 (sreB 3), oL h h1 h2 h3 fB, aI cI h1 3 seB, aI cI h2 7 toB, aI cI h3 60 reB, oP z1 pfB, oT y1 y2 tfB, aC cC y2 60 chB, oL o o1 o2 o3 ofB, aI cI o1 3 oseB, aI cI o2 7 otoB, aI cI o3 60 oreB, oK t1 kfB, aI cI ag 18 ugB, aI cI ar 60 urB, aI cI ad 10 udB] H := hP
      have hD : va_D A [oX x0 h o t1 x1 y1 z1, oH x1 x2 hfB, aL cL x2 (gS s0 s1 s2 s3), oL s0 s01 s02 s03 (sfB 0), aI cI s01 3 (sseB 0), aI cI s02 7 (stoB 0), aI cI s03 60 (sreB 0), oL s1 s11 s12 s13 (sfB 1), aI cI s11 3 (sseB 1), aI cI s12 7 (stoB 1), aI cI s13 60 (sreB 1), oL s2 s21 s22 s23 (sfB 2), aI cI s21 3 (sseB 2), aI cI s22 7 (stoB 2), aI cI s23 60 (sreB 2), oL s3 s31 s32 s33 (sfB 3), aI cI s31 3 (sseB 3), aI cI s32 7 (stoB 3), aI cI s33 60 (sreB 3), oL h h1 h2 h3 fB, aI cI h1 3 seB, aI cI h2 7 toB, aI cI h3 60 reB, oP z1 pfB, oT y1 y2 tfB, aC cC y2 60 chB, oL o o1 o2 o3 ofB, aI cI o1 3 oseB, aI cI o2 7 otoB, aI cI o3 60 oreB, oK t1 kfB, aI cI ag 18 ugB, aI cI ar 60 urB, aI cI ad 10 udB] := hD
      refine lv_ldc (v := (-1000000001)) hx hb hown (hG _ k_413) dL_law_271 ?_
      refine lv_icmp_ne (tgt := 302) hx hb dL_law_273 (by decide) (fun h0 => absurd h0 (not_not_intro (ct_in (p := 10) (Or.inl ⟨by decide, by decide⟩)))) (fun _ => ?_)
      refine lv_aload_n hx hb dL_law_276 rfl (lv_at hl 1 rfl) ?_
      refine lv_bipush (v := 19) hx hb dL_law_277 (by decide) ?_
      refine ag_callVi (As := [.int 19]) (rest := []) hx hb hml hown hG hK hN hA hP hD hS hl (ct_X5_count l D cI cC cL x0 h o t1 x1 y1 z1 x2 s0 s01 s02 s03 s1 s11 s12 s13 s2 s21 s22 s23 s3 s31 s32 s33 h1 h2 h3 y2 o1 o2 o3 hfB fB seB toB reB pfB tfB chB ofB oseB otoB oreB kfB 19 sfB sseB stoB sreB) fX5_count k_220 (ag_cut_1 [] [aI cI ag 18 ugB, aI cI ar 60 urB, aI cI ad 10 udB] rfl) (q0 := 0) rfl rfl rfl rfl (Nat.le_of_ble_eq_true rfl) ⟨Nat.le_of_ble_eq_true rfl, Nat.le_of_ble_eq_true rfl⟩ ⟨(by show (200 + 2 * i) ≤ 600000; omega), (by show (4000 + 14 * i) ≤ 7302250; omega)⟩ dL_law_279 (fun r w1 H locs hw hP hD hS => ?_)
      obtain ⟨rfl, hw⟩ := hw
      subst hw
      have hP : va_P D vwCl [oX x0 h o t1 x1 y1 z1, oH x1 x2 hfB, aL cL x2 (gS s0 s1 s2 s3), oL s0 s01 s02 s03 (sfB 0), aI cI s01 3 (sseB 0), aI cI s02 7 (stoB 0), aI cI s03 60 (sreB 0), oL s1 s11 s12 s13 (sfB 1), aI cI s11 3 (sseB 1), aI cI s12 7 (stoB 1), aI cI s13 60 (sreB 1), oL s2 s21 s22 s23 (sfB 2), aI cI s21 3 (sseB 2), aI cI s22 7 (stoB 2), aI cI s23 60 (sreB 2), oL s3 s31 s32 s33 (sfB 3), aI cI s31 3 (sseB 3), aI cI s32 7 (stoB 3), aI cI s33 60 (sreB 3), oL h h1 h2 h3 fB, aI cI h1 3 seB, aI cI h2 7 toB, aI cI h3 60 reB, oP z1 pfB, oT y1 y2 tfB, aC cC y2 60 chB, oL o o1 o2 o3 ofB, aI cI o1 3 oseB, aI cI o2 7 otoB, aI cI o3 60 oreB, oK t1 kfB, aI cI ag 18 ugB, aI cI ar 60 urB, aI cI ad 10 udB] H := hP
      have hD : va_D A [oX x0 h o t1 x1 y1 z1, oH x1 x2 hfB, aL cL x2 (gS s0 s1 s2 s3), oL s0 s01 s02 s03 (sfB 0), aI cI s01 3 (sseB 0), aI cI s02 7 (stoB 0), aI cI s03 60 (sreB 0), oL s1 s11 s12 s13 (sfB 1), aI cI s11 3 (sseB 1), aI cI s12 7 (stoB 1), aI cI s13 60 (sreB 1), oL s2 s21 s22 s23 (sfB 2), aI cI s21 3 (sseB 2), aI cI s22 7 (stoB 2), aI cI s23 60 (sreB 2), oL s3 s31 s32 s33 (sfB 3), aI cI s31 3 (sseB 3), aI cI s32 7 (stoB 3), aI cI s33 60 (sreB 3), oL h h1 h2 h3 fB, aI cI h1 3 seB, aI cI h2 7 toB, aI cI h3 60 reB, oP z1 pfB, oT y1 y2 tfB, aC cC y2 60 chB, oL o o1 o2 o3 ofB, aI cI o1 3 oseB, aI cI o2 7 otoB, aI cI o3 60 oreB, oK t1 kfB, aI cI ag 18 ugB, aI cI ar 60 urB, aI cI ad 10 udB] := hD
      refine lv_ldc (v := (-1000000001)) hx hb hown (hG _ k_413) dL_law_282 ?_
      refine lv_icmp_ne (tgt := 302) hx hb dL_law_284 (by decide) (fun h0 => absurd h0 (not_not_intro (ct_in (p := 19) (Or.inl ⟨by decide, by decide⟩)))) (fun _ => ?_)
      refine lv_aload_n hx hb dL_law_287 rfl (lv_at hl 1 rfl) ?_
      refine lv_bipush (v := 23) hx hb dL_law_288 (by decide) ?_
      refine ag_callVi (As := [.int 23]) (rest := []) hx hb hml hown hG hK hN hA hP hD hS hl (ct_X5_count l D cI cC cL x0 h o t1 x1 y1 z1 x2 s0 s01 s02 s03 s1 s11 s12 s13 s2 s21 s22 s23 s3 s31 s32 s33 h1 h2 h3 y2 o1 o2 o3 hfB fB seB toB reB pfB tfB chB ofB oseB otoB oreB kfB 23 sfB sseB stoB sreB) fX5_count k_220 (ag_cut_1 [] [aI cI ag 18 ugB, aI cI ar 60 urB, aI cI ad 10 udB] rfl) (q0 := 0) rfl rfl rfl rfl (Nat.le_of_ble_eq_true rfl) ⟨Nat.le_of_ble_eq_true rfl, Nat.le_of_ble_eq_true rfl⟩ ⟨(by show (200 + 2 * i) ≤ 600000; omega), (by show (4000 + 14 * i) ≤ 7302250; omega)⟩ dL_law_290 (fun r w1 H locs hw hP hD hS => ?_)
      obtain ⟨rfl, hw⟩ := hw
      subst hw
      have hP : va_P D vwCl [oX x0 h o t1 x1 y1 z1, oH x1 x2 hfB, aL cL x2 (gS s0 s1 s2 s3), oL s0 s01 s02 s03 (sfB 0), aI cI s01 3 (sseB 0), aI cI s02 7 (stoB 0), aI cI s03 60 (sreB 0), oL s1 s11 s12 s13 (sfB 1), aI cI s11 3 (sseB 1), aI cI s12 7 (stoB 1), aI cI s13 60 (sreB 1), oL s2 s21 s22 s23 (sfB 2), aI cI s21 3 (sseB 2), aI cI s22 7 (stoB 2), aI cI s23 60 (sreB 2), oL s3 s31 s32 s33 (sfB 3), aI cI s31 3 (sseB 3), aI cI s32 7 (stoB 3), aI cI s33 60 (sreB 3), oL h h1 h2 h3 fB, aI cI h1 3 seB, aI cI h2 7 toB, aI cI h3 60 reB, oP z1 pfB, oT y1 y2 tfB, aC cC y2 60 chB, oL o o1 o2 o3 ofB, aI cI o1 3 oseB, aI cI o2 7 otoB, aI cI o3 60 oreB, oK t1 kfB, aI cI ag 18 ugB, aI cI ar 60 urB, aI cI ad 10 udB] H := hP
      have hD : va_D A [oX x0 h o t1 x1 y1 z1, oH x1 x2 hfB, aL cL x2 (gS s0 s1 s2 s3), oL s0 s01 s02 s03 (sfB 0), aI cI s01 3 (sseB 0), aI cI s02 7 (stoB 0), aI cI s03 60 (sreB 0), oL s1 s11 s12 s13 (sfB 1), aI cI s11 3 (sseB 1), aI cI s12 7 (stoB 1), aI cI s13 60 (sreB 1), oL s2 s21 s22 s23 (sfB 2), aI cI s21 3 (sseB 2), aI cI s22 7 (stoB 2), aI cI s23 60 (sreB 2), oL s3 s31 s32 s33 (sfB 3), aI cI s31 3 (sseB 3), aI cI s32 7 (stoB 3), aI cI s33 60 (sreB 3), oL h h1 h2 h3 fB, aI cI h1 3 seB, aI cI h2 7 toB, aI cI h3 60 reB, oP z1 pfB, oT y1 y2 tfB, aC cC y2 60 chB, oL o o1 o2 o3 ofB, aI cI o1 3 oseB, aI cI o2 7 otoB, aI cI o3 60 oreB, oK t1 kfB, aI cI ag 18 ugB, aI cI ar 60 urB, aI cI ad 10 udB] := hD
      refine lv_ldc (v := (-1000000001)) hx hb hown (hG _ k_413) dL_law_293 ?_
      refine lv_icmp_ne (tgt := 302) hx hb dL_law_295 (by decide) (fun h0 => absurd h0 (not_not_intro (ct_in (p := 23) (Or.inr (by decide))))) (fun _ => ?_)
      refine lv_iconst (v := 1) hx hb dL_law_298 (by decide) ?_
      refine lv_goto (tgt := 303) hx hb dL_law_299 (by decide) ?_
      refine va_forget (fun q hq => hA2 _ (hS.2.2 q hq)) ?_
      refine W.widen (k := 600000) (n := 7302250) (by omega) (by omega) ?_
      exact lw_ret hx hb hr hlocks dL_law_303
    | succ n ih =>
      intro i hfB fB seB toB reB pfB tfB chB ofB oseB otoB oreB kfB ugB urB udB sfB sseB stoB sreB hi hZ H locs ls hl hP hD hS
      refine lv_iload hx hb dL_law_198 (lv_at hl 7 rfl) ?_
      refine lv_iload hx hb dL_law_200 (lv_at hl 6 rfl) ?_
      refine lv_icmp_ge (tgt := 260) hx hb dL_law_202 (by decide) (fun h0 => absurd h0 (fun h => absurd ((nI_leI (by omega) (by omega)).mp h) (by omega))) (fun _ => ?_)
      refine lv_iload hx hb dL_law_205 (lv_at hl 5 rfl) ?_
      refine lv_if_eq (tgt := 260) hx hb dL_law_207 (by decide) (fun h0 => absurd h0 (by decide)) (fun _ => ?_)
      refine lv_aload_n hx hb dL_law_210 rfl (lv_at hl 1 rfl) ?_
      refine lv_aload_n hx hb dL_law_211 rfl (lv_at hl 2 rfl) ?_
      refine lv_aload_n hx hb dL_law_212 rfl (lv_at hl 3 rfl) ?_
      refine lv_aload hx hb dL_law_213 (lv_at hl 4 rfl) ?_
      refine lv_aload_n hx hb dL_law_215 rfl (lv_at hl 0 rfl) ?_
      refine lv_iconst (v := 4) hx hb dL_law_216 (by decide) ?_
      refine lv_iload hx hb dL_law_217 (lv_at hl 7 rfl) ?_
      refine lv_iadd hx hb dL_law_219 ?_
      refine ag_tope (nI (4 + i)) (nI_add 4 _) ?_
      refine ag_callX (As := [.ref b, .int (nI (4 + i))]) (rest := [.ref ad, .ref ar, .ref ag, .ref x0]) hx hb hml hown hG hK hN hA hX hbl hbA hP hD hS hl (ct_L_cell l D cI cC cL b L xs (4 + i) hL (by omega)) fL_cell k_239 rfl (Nat.le_of_ble_eq_true rfl) ⟨Nat.le_of_ble_eq_true rfl, Nat.le_of_ble_eq_true rfl⟩ ⟨(by show (200 + 2 * i) ≤ 600000; omega), (by show (4000 + 14 * i) ≤ 7302250; omega)⟩ dL_law_220 (fun v220 H locs hP hD hS => ?_)
      refine lv_sipush (v := 7919) hx hb dL_law_223 (by decide) ?_
      refine lv_iload hx hb dL_law_226 (lv_at hl 7 rfl) ?_
      refine lv_imul hx hb dL_law_228 ?_
      refine lv_ixor hx hb dL_law_229 ?_
      refine ag_callSin (As := [.ref x0, .ref ag, .ref ar, .ref ad, .int (v220 ^^^ (7919 * (nI i)))]) (rest := []) hx hb hml hown hG hK hN hA hP hD hS hl (ct_L_acts l D cI cC cL x0 ag ar ad h o t1 x1 y1 z1 x2 s0 s01 s02 s03 s1 s11 s12 s13 s2 s21 s22 s23 s3 s31 s32 s33 h1 h2 h3 y2 o1 o2 o3 hfB fB seB toB reB pfB tfB chB ofB oseB otoB oreB kfB ugB urB udB (v220 ^^^ (7919 * (nI i))) sfB sseB stoB sreB hZ) fL_acts k_247 ag_cut_all rfl (Nat.le_of_ble_eq_true rfl) ⟨Nat.le_of_ble_eq_true rfl, Nat.le_of_ble_eq_true rfl⟩ ⟨(by show (200 + 2 * i) + 1 ≤ 600000; omega), (by show (4000 + 14 * i) + 7 ≤ 7302250; omega)⟩ dL_law_230 (fun r w1 H locs hw hP hD hS => ?_)
      obtain ⟨rfl, hf230, f230, se230, to230, re230, pf230, tf230, ch230, of230, ose230, oto230, ore230, kf230, ug230, ur230, ud230, sf230, sse230, sto230, sre230, hw, hZ⟩ := hw
      subst hw
      have hP : va_P D vwCl [oX x0 h o t1 x1 y1 z1, oH x1 x2 hf230, aL cL x2 (gS s0 s1 s2 s3), oL s0 s01 s02 s03 (sf230 0), aI cI s01 3 (sse230 0), aI cI s02 7 (sto230 0), aI cI s03 60 (sre230 0), oL s1 s11 s12 s13 (sf230 1), aI cI s11 3 (sse230 1), aI cI s12 7 (sto230 1), aI cI s13 60 (sre230 1), oL s2 s21 s22 s23 (sf230 2), aI cI s21 3 (sse230 2), aI cI s22 7 (sto230 2), aI cI s23 60 (sre230 2), oL s3 s31 s32 s33 (sf230 3), aI cI s31 3 (sse230 3), aI cI s32 7 (sto230 3), aI cI s33 60 (sre230 3), oL h h1 h2 h3 f230, aI cI h1 3 se230, aI cI h2 7 to230, aI cI h3 60 re230, oP z1 pf230, oT y1 y2 tf230, aC cC y2 60 ch230, oL o o1 o2 o3 of230, aI cI o1 3 ose230, aI cI o2 7 oto230, aI cI o3 60 ore230, oK t1 kf230, aI cI ag 18 ug230, aI cI ar 60 ur230, aI cI ad 10 ud230] H := hP
      have hD : va_D A [oX x0 h o t1 x1 y1 z1, oH x1 x2 hf230, aL cL x2 (gS s0 s1 s2 s3), oL s0 s01 s02 s03 (sf230 0), aI cI s01 3 (sse230 0), aI cI s02 7 (sto230 0), aI cI s03 60 (sre230 0), oL s1 s11 s12 s13 (sf230 1), aI cI s11 3 (sse230 1), aI cI s12 7 (sto230 1), aI cI s13 60 (sre230 1), oL s2 s21 s22 s23 (sf230 2), aI cI s21 3 (sse230 2), aI cI s22 7 (sto230 2), aI cI s23 60 (sre230 2), oL s3 s31 s32 s33 (sf230 3), aI cI s31 3 (sse230 3), aI cI s32 7 (sto230 3), aI cI s33 60 (sre230 3), oL h h1 h2 h3 f230, aI cI h1 3 se230, aI cI h2 7 to230, aI cI h3 60 re230, oP z1 pf230, oT y1 y2 tf230, aC cC y2 60 ch230, oL o o1 o2 o3 of230, aI cI o1 3 ose230, aI cI o2 7 oto230, aI cI o3 60 ore230, oK t1 kf230, aI cI ag 18 ug230, aI cI ar 60 ur230, aI cI ad 10 ud230] := hD
      refine lv_if_eq (tgt := 251) hx hb dL_law_233 (by decide) (fun h0 => absurd h0 (by decide)) (fun _ => ?_)
      refine lv_aload_n hx hb dL_law_236 rfl (lv_at hl 1 rfl) ?_
      refine lv_aload_n hx hb dL_law_237 rfl (lv_at hl 2 rfl) ?_
      refine lv_aload_n hx hb dL_law_238 rfl (lv_at hl 3 rfl) ?_
      refine lv_aload hx hb dL_law_239 (lv_at hl 4 rfl) ?_
      refine ag_callSin (As := [.ref x0, .ref ag, .ref ar, .ref ad]) (rest := []) hx hb hml hown hG hK hN hA hP hD hS hl (ct_L_isSo l D cI cC cL x0 ag ar ad h o t1 x1 y1 z1 x2 s0 s01 s02 s03 s1 s11 s12 s13 s2 s21 s22 s23 s3 s31 s32 s33 h1 h2 h3 y2 o1 o2 o3 hf230 f230 se230 to230 re230 pf230 tf230 ch230 of230 ose230 oto230 ore230 kf230 ug230 ur230 ud230 sf230 sse230 sto230 sre230 hZ) fL_isSo k_400 ag_cut_all rfl (Nat.le_of_ble_eq_true rfl) ⟨Nat.le_of_ble_eq_true rfl, Nat.le_of_ble_eq_true rfl⟩ ⟨(by show ((200 + 2 * i) + 1) + 1 ≤ 600000; omega), (by show ((4000 + 14 * i) + 7) + 7 ≤ 7302250; omega)⟩ dL_law_241 (fun r w1 H locs hw hP hD hS => ?_)
      obtain ⟨rfl, kf241, hw⟩ := hw
      subst hw
      have hP : va_P D vwCl [oX x0 h o t1 x1 y1 z1, oH x1 x2 hf230, aL cL x2 (gS s0 s1 s2 s3), oL s0 s01 s02 s03 (sf230 0), aI cI s01 3 (sse230 0), aI cI s02 7 (sto230 0), aI cI s03 60 (sre230 0), oL s1 s11 s12 s13 (sf230 1), aI cI s11 3 (sse230 1), aI cI s12 7 (sto230 1), aI cI s13 60 (sre230 1), oL s2 s21 s22 s23 (sf230 2), aI cI s21 3 (sse230 2), aI cI s22 7 (sto230 2), aI cI s23 60 (sre230 2), oL s3 s31 s32 s33 (sf230 3), aI cI s31 3 (sse230 3), aI cI s32 7 (sto230 3), aI cI s33 60 (sre230 3), oL h h1 h2 h3 f230, aI cI h1 3 se230, aI cI h2 7 to230, aI cI h3 60 re230, oP z1 pf230, oT y1 y2 tf230, aC cC y2 60 ch230, oL o o1 o2 o3 of230, aI cI o1 3 ose230, aI cI o2 7 oto230, aI cI o3 60 ore230, oK t1 kf241, aI cI ag 18 ug230, aI cI ar 60 ur230, aI cI ad 10 ud230] H := hP
      have hD : va_D A [oX x0 h o t1 x1 y1 z1, oH x1 x2 hf230, aL cL x2 (gS s0 s1 s2 s3), oL s0 s01 s02 s03 (sf230 0), aI cI s01 3 (sse230 0), aI cI s02 7 (sto230 0), aI cI s03 60 (sre230 0), oL s1 s11 s12 s13 (sf230 1), aI cI s11 3 (sse230 1), aI cI s12 7 (sto230 1), aI cI s13 60 (sre230 1), oL s2 s21 s22 s23 (sf230 2), aI cI s21 3 (sse230 2), aI cI s22 7 (sto230 2), aI cI s23 60 (sre230 2), oL s3 s31 s32 s33 (sf230 3), aI cI s31 3 (sse230 3), aI cI s32 7 (sto230 3), aI cI s33 60 (sre230 3), oL h h1 h2 h3 f230, aI cI h1 3 se230, aI cI h2 7 to230, aI cI h3 60 re230, oP z1 pf230, oT y1 y2 tf230, aC cC y2 60 ch230, oL o o1 o2 o3 of230, aI cI o1 3 ose230, aI cI o2 7 oto230, aI cI o3 60 ore230, oK t1 kf241, aI cI ag 18 ug230, aI cI ar 60 ur230, aI cI ad 10 ud230] := hD
      refine lv_if_eq (tgt := 251) hx hb dL_law_244 (by decide) (fun h0 => absurd h0 (by decide)) (fun _ => ?_)
      refine lv_iconst (v := 1) hx hb dL_law_247 (by decide) ?_
      refine lv_goto (tgt := 252) hx hb dL_law_248 (by decide) ?_
      refine lv_istore (lv' := [(5, .int 1), (0, .ref b), (1, .ref x0), (2, .ref ag), (3, .ref ar), (4, .ref ad), (6, .int (nI (12 + u))), (7, .int (nI i))]) hx hb dL_law_252 hl (by decide) rfl (fun ls hl => ?_)
      refine lv_iinc (v := nI (i + 1)) (lv' := [(7, .int (nI (i + 1))), (5, .int 1), (0, .ref b), (1, .ref x0), (2, .ref ag), (3, .ref ar), (4, .ref ad), (6, .int (nI (12 + u)))]) hx hb dL_law_254 hl (k := 7) rfl (nI_1 i) (by decide) rfl (fun ls hl => ?_)
      refine lv_goto (tgt := 198) hx hb dL_law_257 (by decide) ?_
      refine W.widen (k := 200 + 2 * (i + 1)) (n := 4000 + 14 * (i + 1)) (by omega) (by omega) ?_
      exact ih (i + 1) hf230 f230 se230 to230 re230 pf230 tf230 ch230 of230 ose230 oto230 ore230 kf241 ug230 ur230 ud230 sf230 sse230 sto230 sre230 (by omega) hZ H locs ls (lv_sub hl [2, 3, 4, 5, 6, 1, 7, 0] rfl) hP hD hS
  | succ n ih =>
    intro i hfA fA seA toA reA pfA tfA chA ofA oseA otoA oreA kfA ugA urA udA sfA sseA stoA sreA hi hZ H locs ls hl hP hD hS
    refine lv_iload hx hb dL_law_88 (lv_at hl 6 rfl) ?_
    refine lv_iconst (v := 3) hx hb dL_law_90 (by decide) ?_
    refine lv_icmp_ge (tgt := 157) hx hb dL_law_91 (by decide) (fun h0 => absurd h0 (fun h => absurd ((nI_leI (a := 3) (by decide) (by omega)).mp h) (by omega))) (fun _ => ?_)
    refine lv_iload hx hb dL_law_94 (lv_at hl 5 rfl) ?_
    refine lv_if_eq (tgt := 157) hx hb dL_law_96 (by decide) (fun h0 => absurd h0 (by decide)) (fun _ => ?_)
    refine lv_aload_n hx hb dL_law_99 rfl (lv_at hl 1 rfl) ?_
    refine lv_aload_n hx hb dL_law_100 rfl (lv_at hl 2 rfl) ?_
    refine lv_aload_n hx hb dL_law_101 rfl (lv_at hl 3 rfl) ?_
    refine lv_aload hx hb dL_law_102 (lv_at hl 4 rfl) ?_
    refine lv_aload_n hx hb dL_law_104 rfl (lv_at hl 0 rfl) ?_
    refine lv_iconst (v := 1) hx hb dL_law_105 (by decide) ?_
    refine lv_iload hx hb dL_law_106 (lv_at hl 6 rfl) ?_
    refine lv_iadd hx hb dL_law_108 ?_
    refine ag_tope (nI (1 + i)) (nI_add 1 _) ?_
    refine ag_callX (As := [.ref b, .int (nI (1 + i))]) (rest := [.ref ad, .ref ar, .ref ag, .ref x0]) hx hb hml hown hG hK hN hA hX hbl hbA hP hD hS hl (ct_L_cell l D cI cC cL b L xs (1 + i) hL (by omega)) fL_cell k_239 rfl (Nat.le_of_ble_eq_true rfl) ⟨Nat.le_of_ble_eq_true rfl, Nat.le_of_ble_eq_true rfl⟩ ⟨(by show (100 + i) ≤ 600000; omega), (by show (3000 + 7 * i) ≤ 7302250; omega)⟩ dL_law_109 (fun v109 H locs hP hD hS => ?_)
    refine lv_ldc (v := 2147483647) hx hb hown (hG _ k_246) dL_law_112 ?_
    refine lv_iand hx hb dL_law_114 ?_
    refine lv_sipush (v := 192) hx hb dL_law_115 (by decide) ?_
    refine lv_idiv hx hb dL_law_118 (by decide) ?_
    refine lv_sipush (v := 192) hx hb dL_law_119 (by decide) ?_
    refine lv_imul hx hb dL_law_122 ?_
    refine lv_iload hx hb dL_law_123 (lv_at hl 6 rfl) ?_
    have J145 : ∀ (ls : Array Slot), lv_has ls 8 [(0, .ref b), (1, .ref x0), (2, .ref ag), (3, .ref ar), (4, .ref ad), (5, .int 1), (6, .int (nI i))] → W p l e room_1 s m #[Value.ref b] below meth c H locs (100 + i) (3000 + 7 * i) (lw_Z below #[Value.ref b] s) (F0 m 145 ls [.int (j145_0_L_law i), .int (((v109 &&& 2147483647) / 192) * 192), .ref ad, .ref ar, .ref ag, .ref x0]) := by
      intro ls hl
      refine lv_iadd hx hb dL_law_145 ?_
      refine ag_callSin (As := [.ref x0, .ref ag, .ref ar, .ref ad, .int ((((v109 &&& 2147483647) / 192) * 192) + (j145_0_L_law i))]) (rest := []) hx hb hml hown hG hK hN hA hP hD hS hl (ct_L_acts l D cI cC cL x0 ag ar ad h o t1 x1 y1 z1 x2 s0 s01 s02 s03 s1 s11 s12 s13 s2 s21 s22 s23 s3 s31 s32 s33 h1 h2 h3 y2 o1 o2 o3 hfA fA seA toA reA pfA tfA chA ofA oseA otoA oreA kfA ugA urA udA ((((v109 &&& 2147483647) / 192) * 192) + (j145_0_L_law i)) sfA sseA stoA sreA hZ) fL_acts k_247 ag_cut_all rfl (Nat.le_of_ble_eq_true rfl) ⟨Nat.le_of_ble_eq_true rfl, Nat.le_of_ble_eq_true rfl⟩ ⟨(by show (100 + i) + 1 ≤ 600000; omega), (by show (3000 + 7 * i) + 7 ≤ 7302250; omega)⟩ dL_law_146 (fun r w1 H locs hw hP hD hS => ?_)
      obtain ⟨rfl, hf146, f146, se146, to146, re146, pf146, tf146, ch146, of146, ose146, oto146, ore146, kf146, ug146, ur146, ud146, sf146, sse146, sto146, sre146, hw, hZ⟩ := hw
      subst hw
      have hP : va_P D vwCl [oX x0 h o t1 x1 y1 z1, oH x1 x2 hf146, aL cL x2 (gS s0 s1 s2 s3), oL s0 s01 s02 s03 (sf146 0), aI cI s01 3 (sse146 0), aI cI s02 7 (sto146 0), aI cI s03 60 (sre146 0), oL s1 s11 s12 s13 (sf146 1), aI cI s11 3 (sse146 1), aI cI s12 7 (sto146 1), aI cI s13 60 (sre146 1), oL s2 s21 s22 s23 (sf146 2), aI cI s21 3 (sse146 2), aI cI s22 7 (sto146 2), aI cI s23 60 (sre146 2), oL s3 s31 s32 s33 (sf146 3), aI cI s31 3 (sse146 3), aI cI s32 7 (sto146 3), aI cI s33 60 (sre146 3), oL h h1 h2 h3 f146, aI cI h1 3 se146, aI cI h2 7 to146, aI cI h3 60 re146, oP z1 pf146, oT y1 y2 tf146, aC cC y2 60 ch146, oL o o1 o2 o3 of146, aI cI o1 3 ose146, aI cI o2 7 oto146, aI cI o3 60 ore146, oK t1 kf146, aI cI ag 18 ug146, aI cI ar 60 ur146, aI cI ad 10 ud146] H := hP
      have hD : va_D A [oX x0 h o t1 x1 y1 z1, oH x1 x2 hf146, aL cL x2 (gS s0 s1 s2 s3), oL s0 s01 s02 s03 (sf146 0), aI cI s01 3 (sse146 0), aI cI s02 7 (sto146 0), aI cI s03 60 (sre146 0), oL s1 s11 s12 s13 (sf146 1), aI cI s11 3 (sse146 1), aI cI s12 7 (sto146 1), aI cI s13 60 (sre146 1), oL s2 s21 s22 s23 (sf146 2), aI cI s21 3 (sse146 2), aI cI s22 7 (sto146 2), aI cI s23 60 (sre146 2), oL s3 s31 s32 s33 (sf146 3), aI cI s31 3 (sse146 3), aI cI s32 7 (sto146 3), aI cI s33 60 (sre146 3), oL h h1 h2 h3 f146, aI cI h1 3 se146, aI cI h2 7 to146, aI cI h3 60 re146, oP z1 pf146, oT y1 y2 tf146, aC cC y2 60 ch146, oL o o1 o2 o3 of146, aI cI o1 3 ose146, aI cI o2 7 oto146, aI cI o3 60 ore146, oK t1 kf146, aI cI ag 18 ug146, aI cI ar 60 ur146, aI cI ad 10 ud146] := hD
      refine lv_istore (lv' := [(5, .int 1), (0, .ref b), (1, .ref x0), (2, .ref ag), (3, .ref ar), (4, .ref ad), (6, .int (nI i))]) hx hb dL_law_149 hl (by decide) rfl (fun ls hl => ?_)
      refine lv_iinc (v := nI (i + 1)) (lv' := [(6, .int (nI (i + 1))), (5, .int 1), (0, .ref b), (1, .ref x0), (2, .ref ag), (3, .ref ar), (4, .ref ad)]) hx hb dL_law_151 hl (k := 6) rfl (nI_1 i) (by decide) rfl (fun ls hl => ?_)
      refine lv_goto (tgt := 88) hx hb dL_law_154 (by decide) ?_
      refine W.widen (k := 100 + (i + 1)) (n := 3000 + 7 * (i + 1)) (by omega) (by omega) ?_
      exact ih (i + 1) hf146 f146 se146 to146 re146 pf146 tf146 ch146 of146 ose146 oto146 ore146 kf146 ug146 ur146 ud146 sf146 sse146 sto146 sre146 (by omega) hZ H locs ls (lv_sub hl [2, 3, 4, 5, 6, 1, 0] rfl) hP hD hS
    refine lv_if_ne (tgt := 132) hx hb dL_law_125 (by decide) (fun c_125 => ?_) (fun c_125 => ?_)
    · refine lv_iload hx hb dL_law_132 (lv_at hl 6 rfl) ?_
      refine lv_iconst (v := 1) hx hb dL_law_134 (by decide) ?_
      refine lv_icmp_ne (tgt := 143) hx hb dL_law_135 (by decide) (fun c_135 => ?_) (fun c_135 => ?_)
      · refine lv_bipush (v := 10) hx hb dL_law_143 (by decide) ?_
        simp only [j145_0_L_law, if_neg c_125, if_neg c_135] at J145
        exact J145 _ (lv_sub hl [0, 1, 2, 3, 4, 5, 6] rfl)
      · refine lv_bipush (v := 6) hx hb dL_law_138 (by decide) ?_
        refine lv_goto (tgt := 145) hx hb dL_law_140 (by decide) ?_
        simp only [j145_0_L_law, if_neg c_125, if_pos c_135] at J145
        exact J145 _ (lv_sub hl [0, 1, 2, 3, 4, 5, 6] rfl)
    · refine lv_iconst (v := 0) hx hb dL_law_128 (by decide) ?_
      refine lv_goto (tgt := 145) hx hb dL_law_129 (by decide) ?_
      simp only [j145_0_L_law, if_pos c_125] at J145
      exact J145 _ (lv_sub hl [0, 1, 2, 3, 4, 5, 6] rfl)
