/-! the model: opens -/
def shf (ms : Nat → Int32) (i : Nat) : Nat → Int32 := fun j => if 19 ≤ j ∧ j < 19 + i then ms (j + 7) else ms j
def zrf (g : Nat → Int32) (a i : Nat) : Nat → Int32 := fun j => if a < j ∧ j < a + i then 0 else g j
theorem shf_0 (ms : Nat → Int32) : shf ms 0 = ms := by
  funext j; unfold shf; rw [if_neg (by omega)]
theorem shf_s (ms : Nat → Int32) (i : Nat) : upd (shf ms i) (19 + i) (shf ms i (19 + i + 7)) = shf ms (i + 1) := by
  funext j
  unfold upd shf
  by_cases h : j = 19 + i
  · rw [if_pos h, if_neg (by omega), if_pos (by omega), h]
  · rw [if_neg h]
    by_cases h2 : 19 ≤ j ∧ j < 19 + i
    · rw [if_pos h2, if_pos (by omega)]
    · rw [if_neg h2, if_neg (by omega)]
theorem zrf_1 (g : Nat → Int32) (a : Nat) : zrf g a 1 = g := by
  funext j; unfold zrf; rw [if_neg (by omega)]
theorem zrf_s (g : Nat → Int32) (a i : Nat) (h : 1 ≤ i) : upd (zrf g a i) (a + i) 0 = zrf g a (i + 1) := by
  funext j
  unfold upd zrf
  by_cases h1 : j = a + i
  · rw [if_pos h1, if_pos (by omega)]
  · rw [if_neg h1]
    by_cases h2 : a < j ∧ j < a + i
    · rw [if_pos h2, if_pos (by omega)]
    · rw [if_neg h2, if_neg (by omega)]
def opZ (g : Nat → Int32) (d : Int32) (a : Nat) : Nat → Int32 := zrf (upd g a d) a 7
def op3 (g : Nat → Int32) (d : Int32) (a : Nat) : Nat → Int32 := upd (opZ g d a) (a + 3) (sr_X6_level (opZ g d a))
def op4 (g : Nat → Int32) (d : Int32) (a : Nat) : Nat → Int32 := upd (op3 g d a) (a + 4) (sr_X6_level (op3 g d a))
def op5 (g : Nat → Int32) (d : Int32) (a : Nat) : Nat → Int32 := upd (op4 g d a) 18 (op4 g d a 18 + 1)
def opG (ms : Nat → Int32) : Nat → Int32 := upd (shf ms 63) 18 (shf ms 63 18 - 1)
def opK (ms : Nat → Int32) (d : Int32) (N : Nat) : Nat := if rK ms d N 0 < N then rK ms d N 0 else if N = 10 then 9 else N
def opW (ms : Nat → Int32) (d : Int32) (N : Nat) : Nat → Int32 := if rK ms d N 0 < N then ms else if N = 10 then op5 (opG ms) d 82 else op5 ms d (19 + 7 * N)
theorem opK_le {ms : Nat → Int32} {d : Int32} {N : Nat} (h : N ≤ 10) : opK ms d N ≤ 9 := by
  unfold opK; split
  · omega
  · split <;> omega
theorem rof_neg {ms : Nat → Int32} {d : Int32} {N : Nat} (hN : N ≤ 10) (h : rof ms d N < 0) : ¬ rK ms d N 0 < N := by
  intro hk
  unfold rof at h
  rw [if_pos hk] at h
  exact nI_pos (by omega) h
theorem rof_pos {ms : Nat → Int32} {d : Int32} {N : Nat} (h : ¬ rof ms d N < 0) : rK ms d N 0 < N := by
  apply Classical.byContradiction
  intro hk
  unfold rof at h
  rw [if_neg hk] at h
  exact h (by decide)
theorem hq10 {ms : Nat → Int32} {N : Nat} (hq : ms 18 = nI N ∧ N ≤ 10) : ms 18 = 10 ↔ N = 10 := by
  rw [hq.1]; exact nI_eq (by omega) (by decide)
theorem opG_18 {ms : Nat → Int32} (h : ms 18 = 10) : 19 + 7 * opG ms 18 = nI (19 + 7 * 9) := by
  show 19 + 7 * upd (shf ms 63) 18 (shf ms 63 18 - 1) 18 = _
  unfold upd
  rw [if_pos rfl, show shf ms 63 18 = 10 by unfold shf; rw [if_neg (by omega), h]]
  rfl
theorem opB_18 {ms : Nat → Int32} {N : Nat} (hq : ms 18 = nI N ∧ N ≤ 10) : 19 + 7 * ms 18 = nI (19 + 7 * N) := by rw [hq.1]; exact mx_rec N
theorem opB_le {ms : Nat → Int32} {N : Nat} (hq : ms 18 = nI N ∧ N ≤ 10) (h : ¬ ms 18 = 10) : N ≤ 9 := by
  have := hq.2
  have h2 : N ≠ 10 := fun h3 => h ((hq10 hq).mpr h3)
  omega
theorem opW_A {ms : Nat → Int32} {d : Int32} {N : Nat} (hq : ms 18 = nI N ∧ N ≤ 10) (h1 : ¬ rK ms d N 0 < N) (h : ms 18 = 10) : op5 (opG ms) d (19 + 7 * 9) = opW ms d N := by
  unfold opW; rw [if_neg h1, if_pos ((hq10 hq).mp h)]
theorem opW_B {ms : Nat → Int32} {d : Int32} {N : Nat} (hq : ms 18 = nI N ∧ N ≤ 10) (h1 : ¬ rK ms d N 0 < N) (h : ¬ ms 18 = 10) : op5 ms d (19 + 7 * N) = opW ms d N := by
  unfold opW; rw [if_neg h1, if_neg (fun h2 => h ((hq10 hq).mpr h2))]
theorem opK_A {ms : Nat → Int32} {d : Int32} {N : Nat} (hq : ms 18 = nI N ∧ N ≤ 10) (h1 : ¬ rK ms d N 0 < N) (h : ms 18 = 10) : opK ms d N = 9 := by
  unfold opK; rw [if_neg h1, if_pos ((hq10 hq).mp h)]
theorem opK_B {ms : Nat → Int32} {d : Int32} {N : Nat} (hq : ms 18 = nI N ∧ N ≤ 10) (h1 : ¬ rK ms d N 0 < N) (h : ¬ ms 18 = 10) : opK ms d N = N := by
  unfold opK; rw [if_neg h1, if_neg (fun h2 => h ((hq10 hq).mpr h2))]
def xv123_1_X6_opens (p1 : Int32) (g : Nat → Int32) (a : Nat) (i : Nat) : Int32 := sr_X6_level (zrf (upd g (19 + 7 * a) p1) (19 + 7 * a) i)
def xv135_2_X6_opens (p1 : Int32) (g : Nat → Int32) (a : Nat) (i : Nat) : Int32 := sr_X6_level (upd (zrf (upd g (19 + 7 * a) p1) (19 + 7 * a) i) (19 + 7 * a + 3) (xv123_1_X6_opens p1 g a i))
def xv146_3_X6_opens (p1 : Int32) (g : Nat → Int32) (a : Nat) (i : Nat) : Int32 := ((upd (upd (zrf (upd g (19 + 7 * a) p1) (19 + 7 * a) i) (19 + 7 * a + 3) (xv123_1_X6_opens p1 g a i)) (19 + 7 * a + 4) (xv135_2_X6_opens p1 g a i)) 18) + 1
abbrev po_X6_opens (cI cC cL : ClassId) (m0 m1 m2 m3 m4 m5 m6 : Nat) (mf ms : Nat → Int32) (p1 : Int32) (N : Nat) (hq : ms 18 = nI N ∧ N ≤ 10) : Int32 → va_W → Prop := fun r w' => nI (19 + 7 * opK ms p1 N) = r ∧ [oM m0 m1 m2 m3 m4 m5 m6 mf, aI cI m1 89 (opW ms p1 N)] = w'
set_option maxHeartbeats 4000000 in
set_option maxRecDepth 100000 in
theorem ct_X6_opens (l : Launch) (D : va_G) (cI cC cL : ClassId) (m0 m1 m2 m3 m4 m5 m6 : Nat) (mf ms : Nat → Int32) (p1 : Int32) (N : Nat) (hq : ms 18 = nI N ∧ N ≤ 10) : ag_MI l yX6_opens cX6_opens 5 .int 1 22 D cI cC cL [.ref m0, .int p1] [oM m0 m1 m2 m3 m4 m5 m6 mf, aI cI m1 89 ms] (po_X6_opens cI cC cL m0 m1 m2 m3 m4 m5 m6 mf ms p1 N hq) := by
  refine ag_MI.of (plainFor_of_name (by decide)) (Nat.le_of_ble_eq_true rfl) ?_
  intro p e s m below meth c hx hb hr hlocks hml hown hmn hG hK A hN hA H locs hP hD hS ls hl
  have hl : lv_has ls 5 [(0, .ref m0), (1, .int p1)] := hl
  refine lv_aload_n hx hb dX6_opens_0 rfl (lv_at hl 0 rfl) ?_
  refine lv_iload_n hx hb dX6_opens_1 rfl (lv_at hl 1 rfl) ?_
  refine ag_callVi (As := [.int p1]) (rest := []) hx hb hml hown hG hK hN hA hP hD hS hl (ct_X6_recordOf l D cI cC cL m0 m1 m2 m3 m4 m5 m6 mf ms p1 N hq) fX6_recordOf k_674 ag_cut_all (q0 := 0) rfl rfl rfl rfl (Nat.le_of_ble_eq_true rfl) ⟨Nat.le_of_ble_eq_true rfl, Nat.le_of_ble_eq_true rfl⟩ ⟨Nat.zero_le _, Nat.zero_le _⟩ dX6_opens_2 (fun r w1 H locs hw hP hD hS => ?_)
  obtain ⟨rfl, hw⟩ := hw
  subst hw
  have hP : va_P D vwCl [oM m0 m1 m2 m3 m4 m5 m6 mf, aI cI m1 89 ms] H := hP
  have hD : va_D A [oM m0 m1 m2 m3 m4 m5 m6 mf, aI cI m1 89 ms] := hD
  refine lv_istore_n (lv' := [(2, .int (rof ms p1 N)), (0, .ref m0), (1, .int p1)]) hx hb dX6_opens_5 rfl hl (by decide) rfl (fun ls hl => ?_)
  refine lv_iload_n hx hb dX6_opens_6 rfl (lv_at hl 0 rfl) ?_
  refine lv_if_lt (tgt := 12) hx hb dX6_opens_7 (by decide) (fun c_7 => ?_) (fun c_7 => ?_)
  · refine lv_aload_n hx hb dX6_opens_12 rfl (lv_at hl 1 rfl) ?_
    refine ag_getX6 (v := .ref m1) hx hb hG hown hK hP 0 0 rfl (by decide) k_536 rfl dX6_opens_13 ?_
    refine lv_bipush (v := 18) hx hb dX6_opens_16 (by decide) ?_
    refine ag_ild (k := 18) (v := ms 18) hx hb hK hP 1 rfl rfl (Nat.le_of_ble_eq_true rfl) (Nat.le_of_ble_eq_true rfl) rfl dX6_opens_18 ?_
    refine lv_bipush (v := 10) hx hb dX6_opens_19 (by decide) ?_
    have J65 : ∀ (g : Nat → Int32) (a : Nat), (hg : 19 + 7 * g 18 = nI (19 + 7 * a)) → (ha : a ≤ 9) → (hR : op5 g p1 (19 + 7 * a) = opW ms p1 N) → (hK9 : opK ms p1 N = a) → ∀ (H : Heap) (locs : List Loc) (ls : Array Slot), lv_has ls 5 [(0, .ref m0), (1, .int p1)] → va_P D vwCl [oM m0 m1 m2 m3 m4 m5 m6 mf, aI cI m1 89 g] H → va_D A [oM m0 m1 m2 m3 m4 m5 m6 mf, aI cI m1 89 g] → va_S A s.heap H locs → W p l e (ag_rm 1 22) s m ([.ref m0, .int p1] : List Value).toArray below meth c H locs 0 0 (MQ below (va_Qi (po_X6_opens cI cC cL m0 m1 m2 m3 m4 m5 m6 mf ms p1 N hq) (ag_Out D [oM m0 m1 m2 m3 m4 m5 m6 mf, aI cI m1 89 ms]) A) ([.ref m0, .int p1] : List Value).toArray s 0 0 A) (F0 m 65 ls []) := by
      intro g a hg ha hR hK9 H locs ls hl hP hD hS
      refine lv_bipush (v := 19) hx hb dX6_opens_65 (by decide) ?_
      refine lv_bipush (v := 7) hx hb dX6_opens_67 (by decide) ?_
      refine lv_aload_n hx hb dX6_opens_69 rfl (lv_at hl 0 rfl) ?_
      refine ag_getX6 (v := .ref m1) hx hb hG hown hK hP 0 0 rfl (by decide) k_536 rfl dX6_opens_70 ?_
      refine lv_bipush (v := 18) hx hb dX6_opens_73 (by decide) ?_
      refine ag_ild (k := 18) (v := g 18) hx hb hK hP 1 rfl rfl (Nat.le_of_ble_eq_true rfl) (Nat.le_of_ble_eq_true rfl) rfl dX6_opens_75 ?_
      refine lv_imul hx hb dX6_opens_76 ?_
      refine lv_iadd hx hb dX6_opens_77 ?_
      refine lv_istore_n (lv' := [(3, .int (19 + (7 * (g 18)))), (0, .ref m0), (1, .int p1)]) hx hb dX6_opens_78 rfl hl (by decide) rfl (fun ls hl => ?_)
      refine lv_aload_n hx hb dX6_opens_79 rfl (lv_at hl 1 rfl) ?_
      refine ag_getX6 (v := .ref m1) hx hb hG hown hK hP 0 0 rfl (by decide) k_536 rfl dX6_opens_80 ?_
      refine lv_iload_n hx hb dX6_opens_83 rfl (lv_at hl 0 rfl) ?_
      refine lv_iload_n hx hb dX6_opens_84 rfl (lv_at hl 2 rfl) ?_
      refine ag_ist (k := 19 + 7 * a) hx hb hK hP hD hS 1 rfl hg (by omega) (Nat.le_of_ble_eq_true rfl) dX6_opens_85 (fun H locs hP hD hS => ?_)
      have hP : va_P D vwCl [oM m0 m1 m2 m3 m4 m5 m6 mf, aI cI m1 89 (upd g (19 + 7 * a) p1)] H := hP
      have hD : va_D A [oM m0 m1 m2 m3 m4 m5 m6 mf, aI cI m1 89 (upd g (19 + 7 * a) p1)] := hD
      refine lv_iconst (v := 1) hx hb dX6_opens_86 (by decide) ?_
      refine lv_istore (lv' := [(4, .int 1), (3, .int (19 + (7 * (g 18)))), (0, .ref m0), (1, .int p1)]) hx hb dX6_opens_87 hl (by decide) rfl (fun ls hl => ?_)
      rw [hg] at hl
      have hP : va_P D vwCl [oM m0 m1 m2 m3 m4 m5 m6 mf, aI cI m1 89 (zrf (upd g (19 + 7 * a) p1) (19 + 7 * a) 1)] H := by rw [zrf_1]; exact hP
      have hD : va_D A [oM m0 m1 m2 m3 m4 m5 m6 mf, aI cI m1 89 (zrf (upd g (19 + 7 * a) p1) (19 + 7 * a) 1)] := by rw [zrf_1]; exact hD
      suffices L89 : ∀ (n : Nat) (i : Nat), (hi : i + n = 7) → (h1 : 1 ≤ i) → ∀ (H : Heap) (locs : List Loc) (ls : Array Slot), lv_has ls 5 [(0, .ref m0), (1, .int p1), (3, .int (nI (19 + 7 * a))), (4, .int (nI i))] → va_P D vwCl [oM m0 m1 m2 m3 m4 m5 m6 mf, aI cI m1 89 (zrf (upd g (19 + 7 * a) p1) (19 + 7 * a) i)] H → va_D A [oM m0 m1 m2 m3 m4 m5 m6 mf, aI cI m1 89 (zrf (upd g (19 + 7 * a) p1) (19 + 7 * a) i)] → va_S A s.heap H locs → W p l e (ag_rm 1 22) s m ([.ref m0, .int p1] : List Value).toArray below meth c H locs 0 0 (MQ below (va_Qi (po_X6_opens cI cC cL m0 m1 m2 m3 m4 m5 m6 mf ms p1 N hq) (ag_Out D [oM m0 m1 m2 m3 m4 m5 m6 mf, aI cI m1 89 ms]) A) ([.ref m0, .int p1] : List Value).toArray s 0 0 A) (F0 m 89 ls []) from L89 6 1 (by omega) (by omega) H locs ls (lv_sub hl [2, 3, 1, 0] rfl) hP hD hS
      intro n
      induction n with
      | zero =>
        intro i hi h1 H locs ls hl hP hD hS
        have hi7 : i = 7 := by omega
        refine lv_iload hx hb dX6_opens_89 (lv_at hl 3 rfl) ?_
        refine lv_bipush (v := 7) hx hb dX6_opens_91 (by decide) ?_
        refine lv_icmp_ge (tgt := 112) hx hb dX6_opens_93 (by decide) (fun _ => ?_) (fun h0 => absurd ((nI_leI (a := 7) (by decide) (by omega)).mpr (by omega)) h0)
        refine lv_aload_n hx hb dX6_opens_112 rfl (lv_at hl 0 rfl) ?_
        refine ag_getX6 (v := .ref m1) hx hb hG hown hK hP 0 0 rfl (by decide) k_536 rfl dX6_opens_113 ?_
        refine lv_iload_n hx hb dX6_opens_116 rfl (lv_at hl 2 rfl) ?_
        refine lv_iconst (v := 3) hx hb dX6_opens_117 (by decide) ?_
        refine lv_iadd hx hb dX6_opens_118 ?_
        refine lv_aload_n hx hb dX6_opens_119 rfl (lv_at hl 0 rfl) ?_
        refine ag_callVi (As := []) (rest := [.int ((nI (19 + 7 * a)) + 3), .ref m1]) hx hb hml hown hG hK hN hA hP hD hS hl (ct_X6_level l D cI cC cL m0 m1 m2 m3 m4 m5 m6 mf (zrf (upd g (19 + 7 * a) p1) (19 + 7 * a) i)) fX6_level k_661 ag_cut_all (q0 := 0) rfl rfl rfl rfl (Nat.le_of_ble_eq_true rfl) ⟨Nat.le_of_ble_eq_true rfl, Nat.le_of_ble_eq_true rfl⟩ ⟨Nat.zero_le _, Nat.zero_le _⟩ dX6_opens_120 (fun r w1 H locs hw hP hD hS => ?_)
        obtain ⟨rfl, hw⟩ := hw
        subst hw
        have hP : va_P D vwCl [oM m0 m1 m2 m3 m4 m5 m6 mf, aI cI m1 89 (zrf (upd g (19 + 7 * a) p1) (19 + 7 * a) i)] H := hP
        have hD : va_D A [oM m0 m1 m2 m3 m4 m5 m6 mf, aI cI m1 89 (zrf (upd g (19 + 7 * a) p1) (19 + 7 * a) i)] := hD
        refine ag_topn (v := xv123_1_X6_opens p1 g a i) rfl (fun x123_1 ex123_1 => ?_)
        refine ag_ist (k := 19 + 7 * a + 3) hx hb hK hP hD hS 1 rfl (nI_add _ 3) (by omega) (Nat.le_of_ble_eq_true rfl) dX6_opens_123 (fun H locs hP hD hS => ?_)
        have hP : va_P D vwCl [oM m0 m1 m2 m3 m4 m5 m6 mf, aI cI m1 89 (upd (zrf (upd g (19 + 7 * a) p1) (19 + 7 * a) i) (19 + 7 * a + 3) x123_1)] H := hP
        have hD : va_D A [oM m0 m1 m2 m3 m4 m5 m6 mf, aI cI m1 89 (upd (zrf (upd g (19 + 7 * a) p1) (19 + 7 * a) i) (19 + 7 * a + 3) x123_1)] := hD
        refine lv_aload_n hx hb dX6_opens_124 rfl (lv_at hl 0 rfl) ?_
        refine ag_getX6 (v := .ref m1) hx hb hG hown hK hP 0 0 rfl (by decide) k_536 rfl dX6_opens_125 ?_
        refine lv_iload_n hx hb dX6_opens_128 rfl (lv_at hl 2 rfl) ?_
        refine lv_iconst (v := 4) hx hb dX6_opens_129 (by decide) ?_
        refine lv_iadd hx hb dX6_opens_130 ?_
        refine lv_aload_n hx hb dX6_opens_131 rfl (lv_at hl 0 rfl) ?_
        refine ag_callVi (As := []) (rest := [.int ((nI (19 + 7 * a)) + 4), .ref m1]) hx hb hml hown hG hK hN hA hP hD hS hl (ct_X6_level l D cI cC cL m0 m1 m2 m3 m4 m5 m6 mf (upd (zrf (upd g (19 + 7 * a) p1) (19 + 7 * a) i) (19 + 7 * a + 3) x123_1)) fX6_level k_661 ag_cut_all (q0 := 0) rfl rfl rfl rfl (Nat.le_of_ble_eq_true rfl) ⟨Nat.le_of_ble_eq_true rfl, Nat.le_of_ble_eq_true rfl⟩ ⟨Nat.zero_le _, Nat.zero_le _⟩ dX6_opens_132 (fun r w1 H locs hw hP hD hS => ?_)
        obtain ⟨rfl, hw⟩ := hw
        subst hw
        have hP : va_P D vwCl [oM m0 m1 m2 m3 m4 m5 m6 mf, aI cI m1 89 (upd (zrf (upd g (19 + 7 * a) p1) (19 + 7 * a) i) (19 + 7 * a + 3) x123_1)] H := hP
        have hD : va_D A [oM m0 m1 m2 m3 m4 m5 m6 mf, aI cI m1 89 (upd (zrf (upd g (19 + 7 * a) p1) (19 + 7 * a) i) (19 + 7 * a + 3) x123_1)] := hD
        refine ag_topn (v := xv135_2_X6_opens p1 g a i) (by rw [← ex123_1]; rfl) (fun x135_2 ex135_2 => ?_)
        refine ag_ist (k := 19 + 7 * a + 4) hx hb hK hP hD hS 1 rfl (nI_add _ 4) (by omega) (Nat.le_of_ble_eq_true rfl) dX6_opens_135 (fun H locs hP hD hS => ?_)
        have hP : va_P D vwCl [oM m0 m1 m2 m3 m4 m5 m6 mf, aI cI m1 89 (upd (upd (zrf (upd g (19 + 7 * a) p1) (19 + 7 * a) i) (19 + 7 * a + 3) x123_1) (19 + 7 * a + 4) x135_2)] H := hP
        have hD : va_D A [oM m0 m1 m2 m3 m4 m5 m6 mf, aI cI m1 89 (upd (upd (zrf (upd g (19 + 7 * a) p1) (19 + 7 * a) i) (19 + 7 * a + 3) x123_1) (19 + 7 * a + 4) x135_2)] := hD
        refine lv_aload_n hx hb dX6_opens_136 rfl (lv_at hl 0 rfl) ?_
        refine ag_getX6 (v := .ref m1) hx hb hG hown hK hP 0 0 rfl (by decide) k_536 rfl dX6_opens_137 ?_
        refine lv_bipush (v := 18) hx hb dX6_opens_140 (by decide) ?_
        refine lv_dup2_11 hx hb dX6_opens_142 rfl rfl ?_
        refine ag_ild (k := 18) (v := (upd (upd (zrf (upd g (19 + 7 * a) p1) (19 + 7 * a) i) (19 + 7 * a + 3) x123_1) (19 + 7 * a + 4) x135_2) 18) hx hb hK hP 1 rfl rfl (Nat.le_of_ble_eq_true rfl) (Nat.le_of_ble_eq_true rfl) rfl dX6_opens_143 ?_
        refine lv_iconst (v := 1) hx hb dX6_opens_144 (by decide) ?_
        refine lv_iadd hx hb dX6_opens_145 ?_
        refine ag_topn (v := xv146_3_X6_opens p1 g a i) (by rw [← ex123_1, ← ex135_2]; rfl) (fun x146_3 ex146_3 => ?_)
        refine ag_ist (k := 18) hx hb hK hP hD hS 1 rfl rfl (Nat.le_of_ble_eq_true rfl) (Nat.le_of_ble_eq_true rfl) dX6_opens_146 (fun H locs hP hD hS => ?_)
        have hP : va_P D vwCl [oM m0 m1 m2 m3 m4 m5 m6 mf, aI cI m1 89 (upd (upd (upd (zrf (upd g (19 + 7 * a) p1) (19 + 7 * a) i) (19 + 7 * a + 3) x123_1) (19 + 7 * a + 4) x135_2) 18 x146_3)] H := hP
        have hD : va_D A [oM m0 m1 m2 m3 m4 m5 m6 mf, aI cI m1 89 (upd (upd (upd (zrf (upd g (19 + 7 * a) p1) (19 + 7 * a) i) (19 + 7 * a + 3) x123_1) (19 + 7 * a + 4) x135_2) 18 x146_3)] := hD
        refine lv_iload_n hx hb dX6_opens_147 rfl (lv_at hl 2 rfl) ?_
        revert hP; revert hD; revert hS; revert hl
        subst ex146_3
        subst ex135_2
        subst ex123_1
        intro hl hS hD hP
        exact ag_iret [m0, m1] hx hb hr rfl hlocks hP hS rfl rfl ⟨(by rw [hK9]), (by show _ = _; rw [← hR]; subst hi7; rfl)⟩ dX6_opens_148
      | succ n ih =>
        intro i hi h1 H locs ls hl hP hD hS
        refine lv_iload hx hb dX6_opens_89 (lv_at hl 3 rfl) ?_
        refine lv_bipush (v := 7) hx hb dX6_opens_91 (by decide) ?_
        refine lv_icmp_ge (tgt := 112) hx hb dX6_opens_93 (by decide) (fun h0 => absurd h0 (fun h => absurd ((nI_leI (a := 7) (by decide) (by omega)).mp h) (by omega))) (fun _ => ?_)
        refine lv_aload_n hx hb dX6_opens_96 rfl (lv_at hl 0 rfl) ?_
        refine ag_getX6 (v := .ref m1) hx hb hG hown hK hP 0 0 rfl (by decide) k_536 rfl dX6_opens_97 ?_
        refine lv_iload_n hx hb dX6_opens_100 rfl (lv_at hl 2 rfl) ?_
        refine lv_iload hx hb dX6_opens_101 (lv_at hl 3 rfl) ?_
        refine lv_iadd hx hb dX6_opens_103 ?_
        refine lv_iconst (v := 0) hx hb dX6_opens_104 (by decide) ?_
        refine ag_ist (k := 19 + 7 * a + i) hx hb hK hP hD hS 1 rfl (nI_add _ _) (by omega) (Nat.le_of_ble_eq_true rfl) dX6_opens_105 (fun H locs hP hD hS => ?_)
        have hP : va_P D vwCl [oM m0 m1 m2 m3 m4 m5 m6 mf, aI cI m1 89 (upd (zrf (upd g (19 + 7 * a) p1) (19 + 7 * a) i) (19 + 7 * a + i) 0)] H := hP
        have hD : va_D A [oM m0 m1 m2 m3 m4 m5 m6 mf, aI cI m1 89 (upd (zrf (upd g (19 + 7 * a) p1) (19 + 7 * a) i) (19 + 7 * a + i) 0)] := hD
        refine lv_iinc (v := nI (i + 1)) (lv' := [(4, .int (nI (i + 1))), (0, .ref m0), (1, .int p1), (3, .int (nI (19 + 7 * a)))]) hx hb dX6_opens_106 hl (k := 3) rfl (nI_1 i) (by decide) rfl (fun ls hl => ?_)
        refine lv_goto (tgt := 89) hx hb dX6_opens_109 (by decide) ?_
        rw [zrf_s _ _ _ h1] at hP hD
        exact ih (i + 1) (by omega) (by omega) H locs ls (lv_sub hl [1, 2, 3, 0] rfl) hP hD hS
    refine lv_icmp_ne (tgt := 65) hx hb dX6_opens_21 (by decide) (fun c_21 => ?_) (fun c_21 => ?_)
    · exact J65 ms N (opB_18 hq) (opB_le hq c_21) (opW_B hq (rof_neg hq.2 c_7) c_21) (opK_B hq (rof_neg hq.2 c_7) c_21) H locs ls (lv_sub hl [1, 2] rfl) hP hD hS
    · refine lv_bipush (v := 19) hx hb dX6_opens_24 (by decide) ?_
      refine lv_istore_n (lv' := [(3, .int 19), (2, .int (rof ms p1 N)), (0, .ref m0), (1, .int p1)]) hx hb dX6_opens_26 rfl hl (by decide) rfl (fun ls hl => ?_)
      have hP : va_P D vwCl [oM m0 m1 m2 m3 m4 m5 m6 mf, aI cI m1 89 (shf ms 0)] H := by rw [shf_0]; exact hP
      have hD : va_D A [oM m0 m1 m2 m3 m4 m5 m6 mf, aI cI m1 89 (shf ms 0)] := by rw [shf_0]; exact hD
      suffices L27 : ∀ (n : Nat) (k : Nat), (hk : k + n = 63) → ∀ (H : Heap) (locs : List Loc) (ls : Array Slot), lv_has ls 5 [(0, .ref m0), (1, .int p1), (3, .int (nI (19 + k)))] → va_P D vwCl [oM m0 m1 m2 m3 m4 m5 m6 mf, aI cI m1 89 (shf ms k)] H → va_D A [oM m0 m1 m2 m3 m4 m5 m6 mf, aI cI m1 89 (shf ms k)] → va_S A s.heap H locs → W p l e (ag_rm 1 22) s m ([.ref m0, .int p1] : List Value).toArray below meth c H locs 0 0 (MQ below (va_Qi (po_X6_opens cI cC cL m0 m1 m2 m3 m4 m5 m6 mf ms p1 N hq) (ag_Out D [oM m0 m1 m2 m3 m4 m5 m6 mf, aI cI m1 89 ms]) A) ([.ref m0, .int p1] : List Value).toArray s 0 0 A) (F0 m 27 ls []) from L27 63 0 (by omega) H locs ls (lv_sub hl [2, 3, 0] rfl) hP hD hS
      intro n
      induction n with
      | zero =>
        intro k hk H locs ls hl hP hD hS
        have hk63 : k = 63 := by omega
        refine lv_iload_n hx hb dX6_opens_27 rfl (lv_at hl 2 rfl) ?_
        refine lv_bipush (v := 82) hx hb dX6_opens_28 (by decide) ?_
        refine lv_icmp_ge (tgt := 54) hx hb dX6_opens_30 (by decide) (fun _ => ?_) (fun h0 => absurd ((nI_leI (a := 82) (by decide) (by omega)).mpr (by omega)) h0)
        refine lv_aload_n hx hb dX6_opens_54 rfl (lv_at hl 0 rfl) ?_
        refine ag_getX6 (v := .ref m1) hx hb hG hown hK hP 0 0 rfl (by decide) k_536 rfl dX6_opens_55 ?_
        refine lv_bipush (v := 18) hx hb dX6_opens_58 (by decide) ?_
        refine lv_dup2_11 hx hb dX6_opens_60 rfl rfl ?_
        refine ag_ild (k := 18) (v := (shf ms k) 18) hx hb hK hP 1 rfl rfl (Nat.le_of_ble_eq_true rfl) (Nat.le_of_ble_eq_true rfl) rfl dX6_opens_61 ?_
        refine lv_iconst (v := 1) hx hb dX6_opens_62 (by decide) ?_
        refine lv_isub hx hb dX6_opens_63 ?_
        refine ag_ist (k := 18) hx hb hK hP hD hS 1 rfl rfl (Nat.le_of_ble_eq_true rfl) (Nat.le_of_ble_eq_true rfl) dX6_opens_64 (fun H locs hP hD hS => ?_)
        have hP : va_P D vwCl [oM m0 m1 m2 m3 m4 m5 m6 mf, aI cI m1 89 (upd (shf ms k) 18 (((shf ms k) 18) - 1))] H := hP
        have hD : va_D A [oM m0 m1 m2 m3 m4 m5 m6 mf, aI cI m1 89 (upd (shf ms k) 18 (((shf ms k) 18) - 1))] := hD
        subst hk63
        exact J65 (opG ms) 9 (opG_18 c_21) (by omega) (opW_A hq (rof_neg hq.2 c_7) c_21) (opK_A hq (rof_neg hq.2 c_7) c_21) H locs ls (lv_sub hl [0, 1] rfl) hP hD hS
      | succ n ih =>
        intro k hk H locs ls hl hP hD hS
        refine lv_iload_n hx hb dX6_opens_27 rfl (lv_at hl 2 rfl) ?_
        refine lv_bipush (v := 82) hx hb dX6_opens_28 (by decide) ?_
        refine lv_icmp_ge (tgt := 54) hx hb dX6_opens_30 (by decide) (fun h0 => absurd h0 (fun h => absurd ((nI_leI (a := 82) (by decide) (by omega)).mp h) (by omega))) (fun _ => ?_)
        refine lv_aload_n hx hb dX6_opens_33 rfl (lv_at hl 0 rfl) ?_
        refine ag_getX6 (v := .ref m1) hx hb hG hown hK hP 0 0 rfl (by decide) k_536 rfl dX6_opens_34 ?_
        refine lv_iload_n hx hb dX6_opens_37 rfl (lv_at hl 2 rfl) ?_
        refine lv_aload_n hx hb dX6_opens_38 rfl (lv_at hl 0 rfl) ?_
        refine ag_getX6 (v := .ref m1) hx hb hG hown hK hP 0 0 rfl (by decide) k_536 rfl dX6_opens_39 ?_
        refine lv_iload_n hx hb dX6_opens_42 rfl (lv_at hl 2 rfl) ?_
        refine lv_bipush (v := 7) hx hb dX6_opens_43 (by decide) ?_
        refine lv_iadd hx hb dX6_opens_45 ?_
        refine ag_ild (k := 19 + k + 7) (v := (shf ms k) (19 + k + 7)) hx hb hK hP 1 rfl (nI_add _ 7) (by omega) (Nat.le_of_ble_eq_true rfl) rfl dX6_opens_46 ?_
        refine ag_ist (k := 19 + k) hx hb hK hP hD hS 1 rfl rfl (by omega) (Nat.le_of_ble_eq_true rfl) dX6_opens_47 (fun H locs hP hD hS => ?_)
        have hP : va_P D vwCl [oM m0 m1 m2 m3 m4 m5 m6 mf, aI cI m1 89 (upd (shf ms k) (19 + k) ((shf ms k) (19 + k + 7)))] H := hP
        have hD : va_D A [oM m0 m1 m2 m3 m4 m5 m6 mf, aI cI m1 89 (upd (shf ms k) (19 + k) ((shf ms k) (19 + k + 7)))] := hD
        refine lv_iinc (v := nI ((19 + k) + 1)) (lv' := [(3, .int (nI ((19 + k) + 1))), (0, .ref m0), (1, .int p1)]) hx hb dX6_opens_48 hl (k := 2) rfl (nI_1 (19 + k)) (by decide) rfl (fun ls hl => ?_)
        refine lv_goto (tgt := 27) hx hb dX6_opens_51 (by decide) ?_
        rw [shf_s] at hP hD
        exact ih (k + 1) (by omega) H locs ls (lv_sub hl [1, 2, 0] rfl) hP hD hS
  · refine lv_iload_n hx hb dX6_opens_10 rfl (lv_at hl 0 rfl) ?_
    exact ag_iret [m0, m1] hx hb hr rfl hlocks hP hS rfl rfl ⟨(by unfold opK rof; rw [if_pos (rof_pos c_7), if_pos (rof_pos c_7)]), (by show _ = _; unfold opW; rw [if_pos (rof_pos c_7)])⟩ dX6_opens_11
