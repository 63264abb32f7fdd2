/-! the model: bestDay, count, undo, texts -/
def mbd (ms : Nat → Int32) : Nat → Nat → Int32 → Int32
  | 0, _, x => x
  | n + 1, k, x => mbd ms n (k + 1) (if x < 0 then 19 + 7 * nI k else if ms (19 + 7 * k + 1) ≤ ms (x.toNatClampNeg + 1) then x else 19 + 7 * nI k)
def bdq (x : Int32) : Prop := x = -1000000004 ∨ ∃ b : Nat, b < 10 ∧ x = nI (19 + 7 * b)
theorem bdq_k {k : Nat} (h : k < 10) : bdq (19 + 7 * nI k) := Or.inr ⟨k, h, mx_rec k⟩
theorem bdq_ix {x : Int32} (h : bdq x) (h0 : ¬ x < 0) : x = nI x.toNatClampNeg ∧ x.toNatClampNeg + 1 < 89 := by
  rcases h with h | ⟨b, h1, h2⟩
  · rw [h] at h0; exact absurd (by decide) h0
  · rw [h2, nI_clamp (by omega)]; exact ⟨rfl, by omega⟩
def sr_X6_bestDay (ms : Nat → Int32) (N : Nat) : Int32 := if 0 ≤ mbd ms N 0 (-1000000004) then ms (mbd ms N 0 (-1000000004)).toNatClampNeg else (-1000000004)
abbrev po_X6_bestDay (cI cC cL : ClassId) (m0 m1 m2 m3 m4 m5 m6 : Nat) (mf ms : Nat → Int32) (N : Nat) (hq : ms 18 = nI N ∧ N ≤ 10) : Int32 → va_W → Prop := fun r w' => sr_X6_bestDay ms N = r ∧ [oM m0 m1 m2 m3 m4 m5 m6 mf, aI cI m1 89 ms] = w'
set_option maxHeartbeats 4000000 in
set_option maxRecDepth 100000 in
theorem ct_X6_bestDay (l : Launch) (D : va_G) (cI cC cL : ClassId) (m0 m1 m2 m3 m4 m5 m6 : Nat) (mf ms : Nat → Int32) (N : Nat) (hq : ms 18 = nI N ∧ N ≤ 10) : ag_MI l yX6_bestDay cX6_bestDay 3 .int 0 0 D cI cC cL [.ref m0] [oM m0 m1 m2 m3 m4 m5 m6 mf, aI cI m1 89 ms] (po_X6_bestDay cI cC cL m0 m1 m2 m3 m4 m5 m6 mf ms N hq) := by
  refine ag_MI.of (plainFor_of_name (by decide)) (Nat.le_of_ble_eq_true rfl) ?_
  intro p e s m below meth c hx hb hr hlocks hml hown hmn hG hK A hN hA H locs hP hD hS ls hl
  have hl : lv_has ls 3 [(0, .ref m0)] := hl
  refine lv_ldc (v := (-1000000004)) hx hb hown (hG _ k_678) dX6_bestDay_0 ?_
  refine lv_istore_n (lv' := [(1, .int (-1000000004)), (0, .ref m0)]) hx hb dX6_bestDay_2 rfl hl (by decide) rfl (fun ls hl => ?_)
  refine lv_iconst (v := 0) hx hb dX6_bestDay_3 (by decide) ?_
  refine lv_istore_n (lv' := [(2, .int 0), (1, .int (-1000000004)), (0, .ref m0)]) hx hb dX6_bestDay_4 rfl hl (by decide) rfl (fun ls hl => ?_)
  suffices L5 : ∀ (n : Nat) (k : Nat) (fo : Int32), (hk : k + n = N) → (hf : bdq fo) → (hR : mbd ms n k fo = mbd ms N 0 (-1000000004)) → ∀ (H : Heap) (locs : List Loc) (ls : Array Slot), lv_has ls 3 [(0, .ref m0), (1, .int fo), (2, .int (nI k))] → va_P D vwCl [oM m0 m1 m2 m3 m4 m5 m6 mf, aI cI m1 89 ms] H → va_D A [oM m0 m1 m2 m3 m4 m5 m6 mf, aI cI m1 89 ms] → va_S A s.heap H locs → W p l e (ag_rm 0 0) s m ([.ref m0] : List Value).toArray below meth c H locs 0 0 (MQ below (va_Qi (po_X6_bestDay cI cC cL m0 m1 m2 m3 m4 m5 m6 mf ms N hq) (ag_Out D [oM m0 m1 m2 m3 m4 m5 m6 mf, aI cI m1 89 ms]) A) ([.ref m0] : List Value).toArray s 0 0 A) (F0 m 5 ls []) from L5 N 0 (-1000000004) (by omega) (Or.inl rfl) rfl H locs ls (lv_sub hl [2, 1, 0] rfl) hP hD hS
  intro n
  induction n with
  | zero =>
    intro k fo hk hf hR H locs ls hl hP hD hS
    refine lv_iload_n hx hb dX6_bestDay_5 rfl (lv_at hl 2 rfl) ?_
    refine lv_aload_n hx hb dX6_bestDay_6 rfl (lv_at hl 0 rfl) ?_
    refine ag_getX6 (v := .ref m1) hx hb hG hown hK hP 0 0 rfl (by decide) k_536 rfl dX6_bestDay_7 ?_
    refine lv_bipush (v := 18) hx hb dX6_bestDay_10 (by decide) ?_
    refine ag_ild (k := 18) (v := ms 18) hx hb hK hP 1 rfl rfl (Nat.le_of_ble_eq_true rfl) (Nat.le_of_ble_eq_true rfl) rfl dX6_bestDay_12 ?_
    refine lv_icmp_ge (tgt := 63) hx hb dX6_bestDay_13 (by decide) (fun _ => ?_) (fun h0 => absurd (by rw [hq.1]; exact (nI_leI (by have := hq.2; omega) (by omega)).mpr (by omega)) h0)
    refine lv_iload_n hx hb dX6_bestDay_63 rfl (lv_at hl 1 rfl) ?_
    refine lv_if_ge (tgt := 72) hx hb dX6_bestDay_64 (by decide) (fun c_64 => ?_) (fun c_64 => ?_)
    · refine lv_aload_n hx hb dX6_bestDay_72 rfl (lv_at hl 0 rfl) ?_
      refine ag_getX6 (v := .ref m1) hx hb hG hown hK hP 0 0 rfl (by decide) k_536 rfl dX6_bestDay_73 ?_
      refine lv_iload_n hx hb dX6_bestDay_76 rfl (lv_at hl 1 rfl) ?_
      refine ag_ild (k := fo.toNatClampNeg) (v := ms fo.toNatClampNeg) hx hb hK hP 1 rfl (bdq_ix hf (Int32.not_lt.mpr c_64)).1 (by have := (bdq_ix hf (Int32.not_lt.mpr c_64)).2; omega) (Nat.le_of_ble_eq_true rfl) rfl dX6_bestDay_77 ?_
      exact ag_iret [m0, m1] hx hb hr rfl hlocks hP hS rfl rfl ⟨(by unfold sr_X6_bestDay; rw [← hR]; show (if 0 ≤ fo then ms fo.toNatClampNeg else (-1000000004 : Int32)) = _; rw [if_pos c_64]), rfl⟩ dX6_bestDay_78
    · refine lv_ldc (v := (-1000000004)) hx hb hown (hG _ k_678) dX6_bestDay_67 ?_
      refine lv_goto (tgt := 78) hx hb dX6_bestDay_69 (by decide) ?_
      exact ag_iret [m0, m1] hx hb hr rfl hlocks hP hS rfl rfl ⟨(by unfold sr_X6_bestDay; rw [← hR]; show (if 0 ≤ fo then ms fo.toNatClampNeg else (-1000000004 : Int32)) = _; rw [if_neg c_64]), rfl⟩ dX6_bestDay_78
  | succ n ih =>
    intro k fo hk hf hR H locs ls hl hP hD hS
    refine lv_iload_n hx hb dX6_bestDay_5 rfl (lv_at hl 2 rfl) ?_
    refine lv_aload_n hx hb dX6_bestDay_6 rfl (lv_at hl 0 rfl) ?_
    refine ag_getX6 (v := .ref m1) hx hb hG hown hK hP 0 0 rfl (by decide) k_536 rfl dX6_bestDay_7 ?_
    refine lv_bipush (v := 18) hx hb dX6_bestDay_10 (by decide) ?_
    refine ag_ild (k := 18) (v := ms 18) hx hb hK hP 1 rfl rfl (Nat.le_of_ble_eq_true rfl) (Nat.le_of_ble_eq_true rfl) rfl dX6_bestDay_12 ?_
    refine lv_icmp_ge (tgt := 63) hx hb dX6_bestDay_13 (by decide) (fun h0 => absurd h0 (by rw [hq.1]; exact (fun h => absurd ((nI_leI (by have := hq.2; omega) (by omega)).mp h) (by omega)))) (fun _ => ?_)
    refine lv_iload_n hx hb dX6_bestDay_16 rfl (lv_at hl 1 rfl) ?_
    refine lv_if_lt (tgt := 45) hx hb dX6_bestDay_17 (by decide) (fun c_17 => ?_) (fun c_17 => ?_)
    · refine lv_bipush (v := 19) hx hb dX6_bestDay_45 (by decide) ?_
      refine lv_bipush (v := 7) hx hb dX6_bestDay_47 (by decide) ?_
      refine lv_iload_n hx hb dX6_bestDay_49 rfl (lv_at hl 2 rfl) ?_
      refine lv_imul hx hb dX6_bestDay_50 ?_
      refine lv_iadd hx hb dX6_bestDay_51 ?_
      refine lv_goto (tgt := 56) hx hb dX6_bestDay_52 (by decide) ?_
      refine lv_istore_n (lv' := [(1, .int (19 + (7 * (nI k)))), (0, .ref m0), (2, .int (nI k))]) hx hb dX6_bestDay_56 rfl hl (by decide) rfl (fun ls hl => ?_)
      refine lv_iinc (v := nI (k + 1)) (lv' := [(2, .int (nI (k + 1))), (1, .int (19 + (7 * (nI k)))), (0, .ref m0)]) hx hb dX6_bestDay_57 hl (k := 2) rfl (nI_1 k) (by decide) rfl (fun ls hl => ?_)
      refine lv_goto (tgt := 5) hx hb dX6_bestDay_60 (by decide) ?_
      exact ih (k + 1) (19 + 7 * nI k) (by omega) (bdq_k (by have := hq.2; omega)) ((show mbd ms (n + 1) k fo = mbd ms n (k + 1) (19 + 7 * nI k) by rw [mbd, if_pos c_17]).symm.trans hR) H locs ls (lv_sub hl [2, 1, 0] rfl) hP hD hS
    · refine lv_aload_n hx hb dX6_bestDay_20 rfl (lv_at hl 0 rfl) ?_
      refine ag_getX6 (v := .ref m1) hx hb hG hown hK hP 0 0 rfl (by decide) k_536 rfl dX6_bestDay_21 ?_
      refine lv_bipush (v := 19) hx hb dX6_bestDay_24 (by decide) ?_
      refine lv_bipush (v := 7) hx hb dX6_bestDay_26 (by decide) ?_
      refine lv_iload_n hx hb dX6_bestDay_28 rfl (lv_at hl 2 rfl) ?_
      refine lv_imul hx hb dX6_bestDay_29 ?_
      refine lv_iadd hx hb dX6_bestDay_30 ?_
      refine lv_iconst (v := 1) hx hb dX6_bestDay_31 (by decide) ?_
      refine lv_iadd hx hb dX6_bestDay_32 ?_
      refine ag_ild (k := 19 + 7 * k + 1) (v := ms (19 + 7 * k + 1)) hx hb hK hP 1 rfl ((congrArg (· + (1 : Int32)) (mx_rec k)).trans (nI_add _ 1)) (by have := hq.2; omega) (Nat.le_of_ble_eq_true rfl) rfl dX6_bestDay_33 ?_
      refine lv_aload_n hx hb dX6_bestDay_34 rfl (lv_at hl 0 rfl) ?_
      refine ag_getX6 (v := .ref m1) hx hb hG hown hK hP 0 0 rfl (by decide) k_536 rfl dX6_bestDay_35 ?_
      refine lv_iload_n hx hb dX6_bestDay_38 rfl (lv_at hl 1 rfl) ?_
      refine lv_iconst (v := 1) hx hb dX6_bestDay_39 (by decide) ?_
      refine lv_iadd hx hb dX6_bestDay_40 ?_
      refine ag_ild (k := fo.toNatClampNeg + 1) (v := ms (fo.toNatClampNeg + 1)) hx hb hK hP 1 rfl ((congrArg (· + (1 : Int32)) (bdq_ix hf c_17).1).trans (nI_add _ 1)) (bdq_ix hf c_17).2 (Nat.le_of_ble_eq_true rfl) rfl dX6_bestDay_41 ?_
      refine lv_icmp_le (tgt := 55) hx hb dX6_bestDay_42 (by decide) (fun c_42 => ?_) (fun c_42 => ?_)
      · refine lv_iload_n hx hb dX6_bestDay_55 rfl (lv_at hl 1 rfl) ?_
        refine lv_istore_n (lv' := [(1, .int fo), (0, .ref m0), (2, .int (nI k))]) hx hb dX6_bestDay_56 rfl hl (by decide) rfl (fun ls hl => ?_)
        refine lv_iinc (v := nI (k + 1)) (lv' := [(2, .int (nI (k + 1))), (1, .int fo), (0, .ref m0)]) hx hb dX6_bestDay_57 hl (k := 2) rfl (nI_1 k) (by decide) rfl (fun ls hl => ?_)
        refine lv_goto (tgt := 5) hx hb dX6_bestDay_60 (by decide) ?_
        exact ih (k + 1) fo (by omega) hf ((show mbd ms (n + 1) k fo = mbd ms n (k + 1) fo by rw [mbd, if_neg c_17, if_pos c_42]).symm.trans hR) H locs ls (lv_sub hl [2, 1, 0] rfl) hP hD hS
      · refine lv_bipush (v := 19) hx hb dX6_bestDay_45 (by decide) ?_
        refine lv_bipush (v := 7) hx hb dX6_bestDay_47 (by decide) ?_
        refine lv_iload_n hx hb dX6_bestDay_49 rfl (lv_at hl 2 rfl) ?_
        refine lv_imul hx hb dX6_bestDay_50 ?_
        refine lv_iadd hx hb dX6_bestDay_51 ?_
        refine lv_goto (tgt := 56) hx hb dX6_bestDay_52 (by decide) ?_
        refine lv_istore_n (lv' := [(1, .int (19 + (7 * (nI k)))), (0, .ref m0), (2, .int (nI k))]) hx hb dX6_bestDay_56 rfl hl (by decide) rfl (fun ls hl => ?_)
        refine lv_iinc (v := nI (k + 1)) (lv' := [(2, .int (nI (k + 1))), (1, .int (19 + (7 * (nI k)))), (0, .ref m0)]) hx hb dX6_bestDay_57 hl (k := 2) rfl (nI_1 k) (by decide) rfl (fun ls hl => ?_)
        refine lv_goto (tgt := 5) hx hb dX6_bestDay_60 (by decide) ?_
        exact ih (k + 1) (19 + 7 * nI k) (by omega) (bdq_k (by have := hq.2; omega)) ((show mbd ms (n + 1) k fo = mbd ms n (k + 1) (19 + 7 * nI k) by rw [mbd, if_neg c_17, if_neg c_42]).symm.trans hR) H locs ls (lv_sub hl [2, 1, 0] rfl) hP hD hS
theorem cnt_ix {x : Int32} (h : ¬ sr_X6_in x 20 22 = 0) : (8 + x) - 20 = nI (8 + (x.toNatClampNeg - 20)) ∧ 8 + (x.toNatClampNeg - 20) < 89 := by
  obtain ⟨h1, h2⟩ := in_is h
  have h3 : ¬ x < 0 := fun h => by
    rw [Int32.lt_iff_toInt_lt] at *
    have e0 : (0 : Int32).toInt = 0 := rfl
    have e1 : (20 : Int32).toInt = 20 := rfl
    omega
  obtain ⟨j, hj, rfl⟩ := nI_of h3
  rw [nI_clamp hj]
  have g1 : 20 ≤ j := Nat.not_lt.mp (fun h => h1 (nI_lt (b := 20) h (by decide)))
  have g2 : j ≤ 22 := Nat.not_lt.mp (fun h => h2 (nI_lt (a := 22) h hj))
  refine ⟨?_, by omega⟩
  obtain ⟨q, rfl⟩ := Nat.exists_eq_add_of_le g1
  rw [show (8 : Int32) = nI 8 from rfl, nI_add, show 8 + (20 + q) = 8 + q + 20 by omega, ← nI_add (8 + q) 20, show (20 : Int32) = nI 20 from rfl, Int32.add_sub_cancel, Nat.add_sub_cancel_left]
theorem un_1 {mf : Nat → Int32} (h : cq mf) (h0 : ¬ mf 0 = 0) : mf 0 - 1 = nI (pOf mf - 1) ∧ 1 ≤ pOf mf := by
  obtain ⟨h1, h2⟩ := cq_at h
  have h3 : pOf mf ≠ 0 := fun e => h0 (by rw [h1, e]; rfl)
  obtain ⟨q, hq⟩ : ∃ q, pOf mf = q + 1 := ⟨pOf mf - 1, by omega⟩
  rw [h1, hq]
  exact ⟨nI_pred q, by omega⟩
def sr_X6_undo (mf : Nat → Int32) : Int32 := if mf 0 = 0 then (-1000000002) else mf 0 - 1
def unF (mf : Nat → Int32) : Nat → Int32 := if mf 0 = 0 then mf else upd mf 0 (mf 0 - 1)
def unS (mf ms mp : Nat → Int32) : Nat → Int32 := if mf 0 = 0 then ms else fun j => mp (89 * (pOf mf - 1) + j)
/-- the text's length; a place in the text -/
def tT (mf : Nat → Int32) : Prop := ∃ T : Nat, mf 2 = nI T ∧ T ≤ 60
theorem tT_ix {mf : Nat → Int32} (h : tT mf) (h0 : ¬ mf 2 = 60) : mf 2 = nI (mf 2).toNatClampNeg ∧ (mf 2).toNatClampNeg < 60 := by
  obtain ⟨T, h1, h2⟩ := h
  rw [h1, nI_clamp (by omega)]
  refine ⟨rfl, ?_⟩
  have : T ≠ 60 := fun e => h0 (by rw [h1, e]; rfl)
  omega
def tq (mf : Nat → Int32) : Prop := ∃ S T : Nat, mf 10 = nI S ∧ mf 2 = nI T ∧ S ≤ T ∧ T ≤ 60
def sp (mf : Nat → Int32) : Nat := (mf 10).toNatClampNeg
theorem tq_ix {mf : Nat → Int32} (h : tq mf) (h0 : ¬ mf 2 ≤ mf 10) : mf 10 = nI (sp mf) ∧ sp mf < 60 := by
  obtain ⟨S, T, h1, h2, h3, h4⟩ := h
  unfold sp
  rw [h1, nI_clamp (by omega)]
  refine ⟨rfl, ?_⟩
  have : ¬ T ≤ S := fun e => h0 (by rw [h1, h2]; exact (nI_leI (by omega) (by omega)).mpr e)
  omega
def sr_X6_count (mf : Nat → Int32) (ms : Nat → Int32) (p1 : Int32) : Int32 := if p1 = 0 then ms 11 else if p1 = 1 then ms 12 else if p1 = 2 then ms 13 else if p1 = 3 then ms 14 else if p1 = 4 then ms 15 else if p1 = 5 then ms 16 else if p1 = 6 then ms 17 else if p1 = 7 then ms 18 else if p1 = 8 then mf 0 else if p1 = 9 then mf 2 else if (sr_X6_in p1 20 22) = 0 then (-1000000001) else ms (8 + (p1.toNatClampNeg - 20))
abbrev po_X6_count (cI cC cL : ClassId) (m0 m1 m2 m3 m4 m5 m6 : Nat) (mf ms : Nat → Int32) (p1 : Int32) : Int32 → va_W → Prop := fun r w' => sr_X6_count mf ms p1 = r ∧ [oM m0 m1 m2 m3 m4 m5 m6 mf, aI cI m1 89 ms] = w'
set_option maxHeartbeats 4000000 in
set_option maxRecDepth 100000 in
theorem ct_X6_count (l : Launch) (D : va_G) (cI cC cL : ClassId) (m0 m1 m2 m3 m4 m5 m6 : Nat) (mf ms : Nat → Int32) (p1 : Int32) : ag_MI l yX6_count cX6_count 2 .int 1 22 D cI cC cL [.ref m0, .int p1] [oM m0 m1 m2 m3 m4 m5 m6 mf, aI cI m1 89 ms] (po_X6_count cI cC cL m0 m1 m2 m3 m4 m5 m6 mf ms p1) := by
  refine ag_MI.of (plainFor_of_name (by decide)) (Nat.le_of_ble_eq_true rfl) ?_
  intro p e s m below meth c hx hb hr hlocks hml hown hmn hG hK A hN hA H locs hP hD hS ls hl
  have hl : lv_has ls 2 [(0, .ref m0), (1, .int p1)] := hl
  refine lv_iload_n hx hb dX6_count_0 rfl (lv_at hl 1 rfl) ?_
  by_cases c_1_0 : p1 = 0
  · refine lv_tableIn (off := 55) (tgt := 56) hx hb dX6_count_1 (by rw [c_1_0]; decide) (by rw [c_1_0]; decide) (by rw [c_1_0]; rfl) (by decide) ?_
    refine lv_aload_n hx hb dX6_count_56 rfl (lv_at hl 0 rfl) ?_
    refine ag_getX6 (v := .ref m1) hx hb hG hown hK hP 0 0 rfl (by decide) k_536 rfl dX6_count_57 ?_
    refine lv_bipush (v := 11) hx hb dX6_count_60 (by decide) ?_
    refine lv_iload_n hx hb dX6_count_62 rfl (lv_at hl 1 rfl) ?_
    refine lv_iadd hx hb dX6_count_63 ?_
    refine ag_ild (k := 11) (v := ms 11) hx hb hK hP 1 rfl (by rw [c_1_0]; rfl) (Nat.le_of_ble_eq_true rfl) (Nat.le_of_ble_eq_true rfl) rfl dX6_count_64 ?_
    exact ag_iret [m0, m1] hx hb hr rfl hlocks hP hS rfl rfl ⟨(by unfold sr_X6_count; rw [if_pos c_1_0]), rfl⟩ dX6_count_65
  · by_cases c_1_1 : p1 = 1
    · refine lv_tableIn (off := 55) (tgt := 56) hx hb dX6_count_1 (by rw [c_1_1]; decide) (by rw [c_1_1]; decide) (by rw [c_1_1]; rfl) (by decide) ?_
      refine lv_aload_n hx hb dX6_count_56 rfl (lv_at hl 0 rfl) ?_
      refine ag_getX6 (v := .ref m1) hx hb hG hown hK hP 0 0 rfl (by decide) k_536 rfl dX6_count_57 ?_
      refine lv_bipush (v := 11) hx hb dX6_count_60 (by decide) ?_
      refine lv_iload_n hx hb dX6_count_62 rfl (lv_at hl 1 rfl) ?_
      refine lv_iadd hx hb dX6_count_63 ?_
      refine ag_ild (k := 12) (v := ms 12) hx hb hK hP 1 rfl (by rw [c_1_1]; rfl) (Nat.le_of_ble_eq_true rfl) (Nat.le_of_ble_eq_true rfl) rfl dX6_count_64 ?_
      exact ag_iret [m0, m1] hx hb hr rfl hlocks hP hS rfl rfl ⟨(by unfold sr_X6_count; rw [if_neg c_1_0, if_pos c_1_1]), rfl⟩ dX6_count_65
    · by_cases c_1_2 : p1 = 2
      · refine lv_tableIn (off := 55) (tgt := 56) hx hb dX6_count_1 (by rw [c_1_2]; decide) (by rw [c_1_2]; decide) (by rw [c_1_2]; rfl) (by decide) ?_
        refine lv_aload_n hx hb dX6_count_56 rfl (lv_at hl 0 rfl) ?_
        refine ag_getX6 (v := .ref m1) hx hb hG hown hK hP 0 0 rfl (by decide) k_536 rfl dX6_count_57 ?_
        refine lv_bipush (v := 11) hx hb dX6_count_60 (by decide) ?_
        refine lv_iload_n hx hb dX6_count_62 rfl (lv_at hl 1 rfl) ?_
        refine lv_iadd hx hb dX6_count_63 ?_
        refine ag_ild (k := 13) (v := ms 13) hx hb hK hP 1 rfl (by rw [c_1_2]; rfl) (Nat.le_of_ble_eq_true rfl) (Nat.le_of_ble_eq_true rfl) rfl dX6_count_64 ?_
        exact ag_iret [m0, m1] hx hb hr rfl hlocks hP hS rfl rfl ⟨(by unfold sr_X6_count; rw [if_neg c_1_0, if_neg c_1_1, if_pos c_1_2]), rfl⟩ dX6_count_65
      · by_cases c_1_3 : p1 = 3
        · refine lv_tableIn (off := 55) (tgt := 56) hx hb dX6_count_1 (by rw [c_1_3]; decide) (by rw [c_1_3]; decide) (by rw [c_1_3]; rfl) (by decide) ?_
          refine lv_aload_n hx hb dX6_count_56 rfl (lv_at hl 0 rfl) ?_
          refine ag_getX6 (v := .ref m1) hx hb hG hown hK hP 0 0 rfl (by decide) k_536 rfl dX6_count_57 ?_
          refine lv_bipush (v := 11) hx hb dX6_count_60 (by decide) ?_
          refine lv_iload_n hx hb dX6_count_62 rfl (lv_at hl 1 rfl) ?_
          refine lv_iadd hx hb dX6_count_63 ?_
          refine ag_ild (k := 14) (v := ms 14) hx hb hK hP 1 rfl (by rw [c_1_3]; rfl) (Nat.le_of_ble_eq_true rfl) (Nat.le_of_ble_eq_true rfl) rfl dX6_count_64 ?_
          exact ag_iret [m0, m1] hx hb hr rfl hlocks hP hS rfl rfl ⟨(by unfold sr_X6_count; rw [if_neg c_1_0, if_neg c_1_1, if_neg c_1_2, if_pos c_1_3]), rfl⟩ dX6_count_65
        · by_cases c_1_4 : p1 = 4
          · refine lv_tableIn (off := 55) (tgt := 56) hx hb dX6_count_1 (by rw [c_1_4]; decide) (by rw [c_1_4]; decide) (by rw [c_1_4]; rfl) (by decide) ?_
            refine lv_aload_n hx hb dX6_count_56 rfl (lv_at hl 0 rfl) ?_
            refine ag_getX6 (v := .ref m1) hx hb hG hown hK hP 0 0 rfl (by decide) k_536 rfl dX6_count_57 ?_
            refine lv_bipush (v := 11) hx hb dX6_count_60 (by decide) ?_
            refine lv_iload_n hx hb dX6_count_62 rfl (lv_at hl 1 rfl) ?_
            refine lv_iadd hx hb dX6_count_63 ?_
            refine ag_ild (k := 15) (v := ms 15) hx hb hK hP 1 rfl (by rw [c_1_4]; rfl) (Nat.le_of_ble_eq_true rfl) (Nat.le_of_ble_eq_true rfl) rfl dX6_count_64 ?_
            exact ag_iret [m0, m1] hx hb hr rfl hlocks hP hS rfl rfl ⟨(by unfold sr_X6_count; rw [if_neg c_1_0, if_neg c_1_1, if_neg c_1_2, if_neg c_1_3, if_pos c_1_4]), rfl⟩ dX6_count_65
          · by_cases c_1_5 : p1 = 5
            · refine lv_tableIn (off := 55) (tgt := 56) hx hb dX6_count_1 (by rw [c_1_5]; decide) (by rw [c_1_5]; decide) (by rw [c_1_5]; rfl) (by decide) ?_
              refine lv_aload_n hx hb dX6_count_56 rfl (lv_at hl 0 rfl) ?_
              refine ag_getX6 (v := .ref m1) hx hb hG hown hK hP 0 0 rfl (by decide) k_536 rfl dX6_count_57 ?_
              refine lv_bipush (v := 11) hx hb dX6_count_60 (by decide) ?_
              refine lv_iload_n hx hb dX6_count_62 rfl (lv_at hl 1 rfl) ?_
              refine lv_iadd hx hb dX6_count_63 ?_
              refine ag_ild (k := 16) (v := ms 16) hx hb hK hP 1 rfl (by rw [c_1_5]; rfl) (Nat.le_of_ble_eq_true rfl) (Nat.le_of_ble_eq_true rfl) rfl dX6_count_64 ?_
              exact ag_iret [m0, m1] hx hb hr rfl hlocks hP hS rfl rfl ⟨(by unfold sr_X6_count; rw [if_neg c_1_0, if_neg c_1_1, if_neg c_1_2, if_neg c_1_3, if_neg c_1_4, if_pos c_1_5]), rfl⟩ dX6_count_65
            · by_cases c_1_6 : p1 = 6
              · refine lv_tableIn (off := 55) (tgt := 56) hx hb dX6_count_1 (by rw [c_1_6]; decide) (by rw [c_1_6]; decide) (by rw [c_1_6]; rfl) (by decide) ?_
                refine lv_aload_n hx hb dX6_count_56 rfl (lv_at hl 0 rfl) ?_
                refine ag_getX6 (v := .ref m1) hx hb hG hown hK hP 0 0 rfl (by decide) k_536 rfl dX6_count_57 ?_
                refine lv_bipush (v := 11) hx hb dX6_count_60 (by decide) ?_
                refine lv_iload_n hx hb dX6_count_62 rfl (lv_at hl 1 rfl) ?_
                refine lv_iadd hx hb dX6_count_63 ?_
                refine ag_ild (k := 17) (v := ms 17) hx hb hK hP 1 rfl (by rw [c_1_6]; rfl) (Nat.le_of_ble_eq_true rfl) (Nat.le_of_ble_eq_true rfl) rfl dX6_count_64 ?_
                exact ag_iret [m0, m1] hx hb hr rfl hlocks hP hS rfl rfl ⟨(by unfold sr_X6_count; rw [if_neg c_1_0, if_neg c_1_1, if_neg c_1_2, if_neg c_1_3, if_neg c_1_4, if_neg c_1_5, if_pos c_1_6]), rfl⟩ dX6_count_65
              · by_cases c_1_7 : p1 = 7
                · refine lv_tableIn (off := 55) (tgt := 56) hx hb dX6_count_1 (by rw [c_1_7]; decide) (by rw [c_1_7]; decide) (by rw [c_1_7]; rfl) (by decide) ?_
                  refine lv_aload_n hx hb dX6_count_56 rfl (lv_at hl 0 rfl) ?_
                  refine ag_getX6 (v := .ref m1) hx hb hG hown hK hP 0 0 rfl (by decide) k_536 rfl dX6_count_57 ?_
                  refine lv_bipush (v := 11) hx hb dX6_count_60 (by decide) ?_
                  refine lv_iload_n hx hb dX6_count_62 rfl (lv_at hl 1 rfl) ?_
                  refine lv_iadd hx hb dX6_count_63 ?_
                  refine ag_ild (k := 18) (v := ms 18) hx hb hK hP 1 rfl (by rw [c_1_7]; rfl) (Nat.le_of_ble_eq_true rfl) (Nat.le_of_ble_eq_true rfl) rfl dX6_count_64 ?_
                  exact ag_iret [m0, m1] hx hb hr rfl hlocks hP hS rfl rfl ⟨(by unfold sr_X6_count; rw [if_neg c_1_0, if_neg c_1_1, if_neg c_1_2, if_neg c_1_3, if_neg c_1_4, if_neg c_1_5, if_neg c_1_6, if_pos c_1_7]), rfl⟩ dX6_count_65
                · by_cases c_1_8 : p1 = 8
                  · refine lv_tableIn (off := 65) (tgt := 66) hx hb dX6_count_1 (by rw [c_1_8]; decide) (by rw [c_1_8]; decide) (by rw [c_1_8]; rfl) (by decide) ?_
                    refine lv_aload_n hx hb dX6_count_66 rfl (lv_at hl 0 rfl) ?_
                    refine ag_getX6 (v := .int (mf 0)) hx hb hG hown hK hP 0 4 rfl (by decide) k_540 rfl dX6_count_67 ?_
                    exact ag_iret [m0, m1] hx hb hr rfl hlocks hP hS rfl rfl ⟨(by unfold sr_X6_count; rw [if_neg c_1_0, if_neg c_1_1, if_neg c_1_2, if_neg c_1_3, if_neg c_1_4, if_neg c_1_5, if_neg c_1_6, if_neg c_1_7, if_pos c_1_8]), rfl⟩ dX6_count_70
                  · by_cases c_1_9 : p1 = 9
                    · refine lv_tableIn (off := 70) (tgt := 71) hx hb dX6_count_1 (by rw [c_1_9]; decide) (by rw [c_1_9]; decide) (by rw [c_1_9]; rfl) (by decide) ?_
                      refine lv_aload_n hx hb dX6_count_71 rfl (lv_at hl 0 rfl) ?_
                      refine ag_getX6 (v := .int (mf 2)) hx hb hG hown hK hP 0 7 rfl (by decide) k_543 rfl dX6_count_72 ?_
                      exact ag_iret [m0, m1] hx hb hr rfl hlocks hP hS rfl rfl ⟨(by unfold sr_X6_count; rw [if_neg c_1_0, if_neg c_1_1, if_neg c_1_2, if_neg c_1_3, if_neg c_1_4, if_neg c_1_5, if_neg c_1_6, if_neg c_1_7, if_neg c_1_8, if_pos c_1_9]), rfl⟩ dX6_count_75
                    · refine lv_tableOut (tgt := 76) hx hb dX6_count_1 (by have h0 := lv_neT c_1_0 (a := 0) rfl; have h1 := lv_neT c_1_1 (a := 1) rfl; have h2 := lv_neT c_1_2 (a := 2) rfl; have h3 := lv_neT c_1_3 (a := 3) rfl; have h4 := lv_neT c_1_4 (a := 4) rfl; have h5 := lv_neT c_1_5 (a := 5) rfl; have h6 := lv_neT c_1_6 (a := 6) rfl; have h7 := lv_neT c_1_7 (a := 7) rfl; have h8 := lv_neT c_1_8 (a := 8) rfl; have h9 := lv_neT c_1_9 (a := 9) rfl; omega) (by decide) ?_
                      refine lv_iload_n hx hb dX6_count_76 rfl (lv_at hl 1 rfl) ?_
                      refine lv_bipush (v := 20) hx hb dX6_count_77 (by decide) ?_
                      refine lv_bipush (v := 22) hx hb dX6_count_79 (by decide) ?_
                      refine ag_callSi (As := [.int p1, .int 20, .int 22]) (rest := []) hx hb hml hown hG hK hN hA hP hD hS hl (ct_X6_in l D cI cC cL p1 20 22) fX6_in k_607 ag_cut_0 rfl (Nat.le_of_ble_eq_true rfl) ⟨Nat.le_of_ble_eq_true rfl, Nat.le_of_ble_eq_true rfl⟩ ⟨Nat.zero_le _, Nat.zero_le _⟩ dX6_count_81 (fun r w1 H locs hw hP hD hS => ?_)
                      obtain ⟨rfl, hw⟩ := hw
                      subst hw
                      have hP : va_P D vwCl [oM m0 m1 m2 m3 m4 m5 m6 mf, aI cI m1 89 ms] H := hP
                      have hD : va_D A [oM m0 m1 m2 m3 m4 m5 m6 mf, aI cI m1 89 ms] := hD
                      refine lv_if_eq (tgt := 102) hx hb dX6_count_84 (by decide) (fun c_84 => ?_) (fun c_84 => ?_)
                      · refine lv_ldc (v := (-1000000001)) hx hb hown (hG _ k_618) dX6_count_102 ?_
                        exact ag_iret [m0, m1] hx hb hr rfl hlocks hP hS rfl rfl ⟨(by unfold sr_X6_count; rw [if_neg c_1_0, if_neg c_1_1, if_neg c_1_2, if_neg c_1_3, if_neg c_1_4, if_neg c_1_5, if_neg c_1_6, if_neg c_1_7, if_neg c_1_8, if_neg c_1_9, if_pos c_84]), rfl⟩ dX6_count_104
                      · refine lv_aload_n hx hb dX6_count_87 rfl (lv_at hl 0 rfl) ?_
                        refine ag_getX6 (v := .ref m1) hx hb hG hown hK hP 0 0 rfl (by decide) k_536 rfl dX6_count_88 ?_
                        refine lv_bipush (v := 8) hx hb dX6_count_91 (by decide) ?_
                        refine lv_iload_n hx hb dX6_count_93 rfl (lv_at hl 1 rfl) ?_
                        refine lv_iadd hx hb dX6_count_94 ?_
                        refine lv_bipush (v := 20) hx hb dX6_count_95 (by decide) ?_
                        refine lv_isub hx hb dX6_count_97 ?_
                        refine ag_ild (k := 8 + (p1.toNatClampNeg - 20)) (v := ms (8 + (p1.toNatClampNeg - 20))) hx hb hK hP 1 rfl (cnt_ix c_84).1 (cnt_ix c_84).2 (Nat.le_of_ble_eq_true rfl) rfl dX6_count_98 ?_
                        refine lv_goto (tgt := 104) hx hb dX6_count_99 (by decide) ?_
                        exact ag_iret [m0, m1] hx hb hr rfl hlocks hP hS rfl rfl ⟨(by unfold sr_X6_count; rw [if_neg c_1_0, if_neg c_1_1, if_neg c_1_2, if_neg c_1_3, if_neg c_1_4, if_neg c_1_5, if_neg c_1_6, if_neg c_1_7, if_neg c_1_8, if_neg c_1_9, if_neg c_84]), rfl⟩ dX6_count_104
abbrev po_X6_undo (cI cC cL : ClassId) (m0 m1 m2 m3 m4 m5 m6 : Nat) (mf ms mp : Nat → Int32) (hc : cq mf) : Int32 → va_W → Prop := fun r w' => sr_X6_undo mf = r ∧ [oM m0 m1 m2 m3 m4 m5 m6 (unF mf), aI cI m1 89 (unS mf ms mp), aI cI m2 356 mp] = w'
set_option maxHeartbeats 4000000 in
set_option maxRecDepth 100000 in
theorem ct_X6_undo (l : Launch) (D : va_G) (cI cC cL : ClassId) (m0 m1 m2 m3 m4 m5 m6 : Nat) (mf ms mp : Nat → Int32) (hc : cq mf) : ag_MI l yX6_undo cX6_undo 2 .int 0 0 D cI cC cL [.ref m0] [oM m0 m1 m2 m3 m4 m5 m6 mf, aI cI m1 89 ms, aI cI m2 356 mp] (po_X6_undo cI cC cL m0 m1 m2 m3 m4 m5 m6 mf ms mp hc) := by
  refine ag_MI.of (plainFor_of_name (by decide)) (Nat.le_of_ble_eq_true rfl) ?_
  intro p e s m below meth c hx hb hr hlocks hml hown hmn hG hK A hN hA H locs hP hD hS ls hl
  have hl : lv_has ls 2 [(0, .ref m0)] := hl
  refine lv_aload_n hx hb dX6_undo_0 rfl (lv_at hl 0 rfl) ?_
  refine ag_getX6 (v := .int (mf 0)) hx hb hG hown hK hP 0 4 rfl (by decide) k_540 rfl dX6_undo_1 ?_
  refine lv_if_ne (tgt := 10) hx hb dX6_undo_4 (by decide) (fun c_4 => ?_) (fun c_4 => ?_)
  · refine lv_aload_n hx hb dX6_undo_10 rfl (lv_at hl 0 rfl) ?_
    refine lv_dup hx hb dX6_undo_11 rfl ?_
    refine ag_getX6 (v := .int (mf 0)) hx hb hG hown hK hP 0 4 rfl (by decide) k_540 rfl dX6_undo_12 ?_
    refine lv_iconst (v := 1) hx hb dX6_undo_15 (by decide) ?_
    refine lv_isub hx hb dX6_undo_16 ?_
    refine ag_putX6 hx hb hG hown hK hP hD hS 0 4 rfl (by decide) k_540 (by decide) rfl rfl (Nat.le_of_ble_eq_true rfl) dX6_undo_17 (fun H locs hP hD hS => ?_)
    have hP : va_P D vwCl [oM m0 m1 m2 m3 m4 m5 m6 (upd mf 0 ((mf 0) - 1)), aI cI m1 89 ms, aI cI m2 356 mp] H := hP
    have hD : va_D A [oM m0 m1 m2 m3 m4 m5 m6 (upd mf 0 ((mf 0) - 1)), aI cI m1 89 ms, aI cI m2 356 mp] := hD
    refine lv_iconst (v := 0) hx hb dX6_undo_20 (by decide) ?_
    refine lv_istore_n (lv' := [(1, .int 0), (0, .ref m0)]) hx hb dX6_undo_21 rfl hl (by decide) rfl (fun ls hl => ?_)
    have hP : va_P D vwCl [oM m0 m1 m2 m3 m4 m5 m6 (upd mf 0 ((mf 0) - 1)), aI cI m1 89 (cpy (fun j => mp (89 * (pOf mf - 1) + j)) ms 0), aI cI m2 356 mp] H := by rw [cpy_0]; exact hP
    have hD : va_D A [oM m0 m1 m2 m3 m4 m5 m6 (upd mf 0 ((mf 0) - 1)), aI cI m1 89 (cpy (fun j => mp (89 * (pOf mf - 1) + j)) ms 0), aI cI m2 356 mp] := by rw [cpy_0]; exact hD
    suffices L22 : ∀ (n : Nat) (i : Nat), (hi : i + n = 89) → ∀ (H : Heap) (locs : List Loc) (ls : Array Slot), lv_has ls 2 [(0, .ref m0), (1, .int (nI i))] → va_P D vwCl [oM m0 m1 m2 m3 m4 m5 m6 (upd mf 0 ((mf 0) - 1)), aI cI m1 89 (cpy (fun j => mp (89 * (pOf mf - 1) + j)) ms i), aI cI m2 356 mp] H → va_D A [oM m0 m1 m2 m3 m4 m5 m6 (upd mf 0 ((mf 0) - 1)), aI cI m1 89 (cpy (fun j => mp (89 * (pOf mf - 1) + j)) ms i), aI cI m2 356 mp] → va_S A s.heap H locs → W p l e (ag_rm 0 0) s m ([.ref m0] : List Value).toArray below meth c H locs 0 0 (MQ below (va_Qi (po_X6_undo cI cC cL m0 m1 m2 m3 m4 m5 m6 mf ms mp hc) (ag_Out D [oM m0 m1 m2 m3 m4 m5 m6 mf, aI cI m1 89 ms, aI cI m2 356 mp]) A) ([.ref m0] : List Value).toArray s 0 0 A) (F0 m 22 ls []) from L22 89 0 (by omega) H locs ls (lv_sub hl [1, 0] rfl) hP hD hS
    intro n
    induction n with
    | zero =>
      intro i hi H locs ls hl hP hD hS
      refine lv_iload_n hx hb dX6_undo_22 rfl (lv_at hl 1 rfl) ?_
      refine lv_bipush (v := 89) hx hb dX6_undo_23 (by decide) ?_
      refine lv_icmp_ge (tgt := 54) hx hb dX6_undo_25 (by decide) (fun _ => ?_) (fun h0 => absurd ((nI_leI (a := 89) (by decide) (by omega)).mpr (by omega)) h0)
      refine lv_aload_n hx hb dX6_undo_54 rfl (lv_at hl 0 rfl) ?_
      refine ag_getX6 (v := .int ((mf 0) - 1)) hx hb hG hown hK hP 0 4 rfl (by decide) k_540 rfl dX6_undo_55 ?_
      have hP : va_P D vwCl [oM m0 m1 m2 m3 m4 m5 m6 (upd mf 0 ((mf 0) - 1)), aI cI m1 89 (fun j => mp (89 * (pOf mf - 1) + j)), aI cI m2 356 mp] H := ag_arr hP 1 (fun j => mp (89 * (pOf mf - 1) + j)) rfl (fun j hj => by unfold cpy; rw [if_pos (by omega)])
      exact ag_iret [m0, m1, m2] hx hb hr rfl hlocks hP hS rfl rfl ⟨(by unfold sr_X6_undo; rw [if_neg c_4]), (by show _ = _; unfold unS unF; simp only [if_neg c_4])⟩ dX6_undo_58
    | succ n ih =>
      intro i hi H locs ls hl hP hD hS
      refine lv_iload_n hx hb dX6_undo_22 rfl (lv_at hl 1 rfl) ?_
      refine lv_bipush (v := 89) hx hb dX6_undo_23 (by decide) ?_
      refine lv_icmp_ge (tgt := 54) hx hb dX6_undo_25 (by decide) (fun h0 => absurd h0 (fun h => absurd ((nI_leI (a := 89) (by decide) (by omega)).mp h) (by omega))) (fun _ => ?_)
      refine lv_aload_n hx hb dX6_undo_28 rfl (lv_at hl 0 rfl) ?_
      refine ag_getX6 (v := .ref m1) hx hb hG hown hK hP 0 0 rfl (by decide) k_536 rfl dX6_undo_29 ?_
      refine lv_iload_n hx hb dX6_undo_32 rfl (lv_at hl 1 rfl) ?_
      refine lv_aload_n hx hb dX6_undo_33 rfl (lv_at hl 0 rfl) ?_
      refine ag_getX6 (v := .ref m2) hx hb hG hown hK hP 0 1 rfl (by decide) k_537 rfl dX6_undo_34 ?_
      refine lv_bipush (v := 89) hx hb dX6_undo_37 (by decide) ?_
      refine lv_aload_n hx hb dX6_undo_39 rfl (lv_at hl 0 rfl) ?_
      refine ag_getX6 (v := .int ((mf 0) - 1)) hx hb hG hown hK hP 0 4 rfl (by decide) k_540 rfl dX6_undo_40 ?_
      refine lv_imul hx hb dX6_undo_43 ?_
      refine lv_iload_n hx hb dX6_undo_44 rfl (lv_at hl 1 rfl) ?_
      refine lv_iadd hx hb dX6_undo_45 ?_
      refine ag_ild (k := 89 * (pOf mf - 1) + i) (v := mp (89 * (pOf mf - 1) + i)) hx hb hK hP 2 rfl (by show 89 * (mf 0 - 1) + nI i = _; rw [(un_1 hc c_4).1]; exact mx_89 _ _) (by have := (cq_at hc).2; omega) (Nat.le_of_ble_eq_true rfl) rfl dX6_undo_46 ?_
      refine ag_ist (k := i) hx hb hK hP hD hS 1 rfl rfl (by omega) (Nat.le_of_ble_eq_true rfl) dX6_undo_47 (fun H locs hP hD hS => ?_)
      have hP : va_P D vwCl [oM m0 m1 m2 m3 m4 m5 m6 (upd mf 0 ((mf 0) - 1)), aI cI m1 89 (upd (cpy (fun j => mp (89 * (pOf mf - 1) + j)) ms i) i (mp (89 * (pOf mf - 1) + i))), aI cI m2 356 mp] H := hP
      have hD : va_D A [oM m0 m1 m2 m3 m4 m5 m6 (upd mf 0 ((mf 0) - 1)), aI cI m1 89 (upd (cpy (fun j => mp (89 * (pOf mf - 1) + j)) ms i) i (mp (89 * (pOf mf - 1) + i))), aI cI m2 356 mp] := hD
      refine lv_iinc (v := nI (i + 1)) (lv' := [(1, .int (nI (i + 1))), (0, .ref m0)]) hx hb dX6_undo_48 hl (k := 1) rfl (nI_1 i) (by decide) rfl (fun ls hl => ?_)
      refine lv_goto (tgt := 22) hx hb dX6_undo_51 (by decide) ?_
      rw [show upd (cpy (fun j => mp (89 * (pOf mf - 1) + j)) ms i) i (mp (89 * (pOf mf - 1) + i)) = cpy (fun j => mp (89 * (pOf mf - 1) + j)) ms (i + 1) from cpy_s (fun j => mp (89 * (pOf mf - 1) + j)) ms i] at hP hD
      exact ih (i + 1) (by omega) H locs ls (lv_sub hl [1, 0] rfl) hP hD hS
  · refine lv_ldc (v := (-1000000002)) hx hb hown (hG _ k_683) dX6_undo_7 ?_
    exact ag_iret [m0, m1, m2] hx hb hr rfl hlocks hP hS rfl rfl ⟨(by unfold sr_X6_undo; rw [if_pos c_4]), (by show _ = _; unfold unS unF; simp only [if_pos c_4])⟩ dX6_undo_9
def sr_X6_type (mf : Nat → Int32) (p1 : Int32) : Int32 := if (sr_X6_in p1 32 126) = 0 then (-1000000001) else if (mf 2) = 60 then (-1000000003) else (mf 2) + 1
def sw0_X6_type (mf : Nat → Int32) (p1 : Int32) : Nat → Int32 := if (sr_X6_in p1 32 126) = 0 then mf else if (mf 2) = 60 then mf else upd mf 2 ((mf 2) + 1)
def sw1_X6_type (mf : Nat → Int32) (mx : Nat → Int32) (p1 : Int32) : Nat → Int32 := if (sr_X6_in p1 32 126) = 0 then mx else if (mf 2) = 60 then mx else upd mx ((mf 2).toNatClampNeg) p1
abbrev po_X6_type (cI cC cL : ClassId) (m0 m1 m2 m3 m4 m5 m6 : Nat) (mf mx : Nat → Int32) (p1 : Int32) (ht : tT mf) : Int32 → va_W → Prop := fun r w' => sr_X6_type mf p1 = r ∧ [oM m0 m1 m2 m3 m4 m5 m6 (sw0_X6_type mf p1), aI cI m5 60 (sw1_X6_type mf mx p1)] = w'
set_option maxHeartbeats 4000000 in
set_option maxRecDepth 100000 in
theorem ct_X6_type (l : Launch) (D : va_G) (cI cC cL : ClassId) (m0 m1 m2 m3 m4 m5 m6 : Nat) (mf mx : Nat → Int32) (p1 : Int32) (ht : tT mf) : ag_MI l yX6_type cX6_type 2 .int 1 22 D cI cC cL [.ref m0, .int p1] [oM m0 m1 m2 m3 m4 m5 m6 mf, aI cI m5 60 mx] (po_X6_type cI cC cL m0 m1 m2 m3 m4 m5 m6 mf mx p1 ht) := by
  refine ag_MI.of (plainFor_of_name (by decide)) (Nat.le_of_ble_eq_true rfl) ?_
  intro p e s m below meth c hx hb hr hlocks hml hown hmn hG hK A hN hA H locs hP hD hS ls hl
  have hl : lv_has ls 2 [(0, .ref m0), (1, .int p1)] := hl
  refine lv_iload_n hx hb dX6_type_0 rfl (lv_at hl 1 rfl) ?_
  refine lv_bipush (v := 32) hx hb dX6_type_1 (by decide) ?_
  refine lv_bipush (v := 126) hx hb dX6_type_3 (by decide) ?_
  refine ag_callSi (As := [.int p1, .int 32, .int 126]) (rest := []) hx hb hml hown hG hK hN hA hP hD hS hl (ct_X6_in l D cI cC cL p1 32 126) fX6_in k_607 ag_cut_0 rfl (Nat.le_of_ble_eq_true rfl) ⟨Nat.le_of_ble_eq_true rfl, Nat.le_of_ble_eq_true rfl⟩ ⟨Nat.zero_le _, Nat.zero_le _⟩ dX6_type_5 (fun r w1 H locs hw hP hD hS => ?_)
  obtain ⟨rfl, hw⟩ := hw
  subst hw
  have hP : va_P D vwCl [oM m0 m1 m2 m3 m4 m5 m6 mf, aI cI m5 60 mx] H := hP
  have hD : va_D A [oM m0 m1 m2 m3 m4 m5 m6 mf, aI cI m5 60 mx] := hD
  refine lv_if_ne (tgt := 14) hx hb dX6_type_8 (by decide) (fun c_8 => ?_) (fun c_8 => ?_)
  · refine lv_aload_n hx hb dX6_type_14 rfl (lv_at hl 0 rfl) ?_
    refine ag_getX6 (v := .int (mf 2)) hx hb hG hown hK hP 0 7 rfl (by decide) k_543 rfl dX6_type_15 ?_
    refine lv_bipush (v := 60) hx hb dX6_type_18 (by decide) ?_
    refine lv_icmp_ne (tgt := 26) hx hb dX6_type_20 (by decide) (fun c_20 => ?_) (fun c_20 => ?_)
    · refine lv_aload_n hx hb dX6_type_26 rfl (lv_at hl 0 rfl) ?_
      refine ag_getX6 (v := .ref m5) hx hb hG hown hK hP 0 6 rfl (by decide) k_542 rfl dX6_type_27 ?_
      refine lv_aload_n hx hb dX6_type_30 rfl (lv_at hl 0 rfl) ?_
      refine ag_getX6 (v := .int (mf 2)) hx hb hG hown hK hP 0 7 rfl (by decide) k_543 rfl dX6_type_31 ?_
      refine lv_iload_n hx hb dX6_type_34 rfl (lv_at hl 1 rfl) ?_
      refine ag_ist (k := (mf 2).toNatClampNeg) hx hb hK hP hD hS 1 rfl (tT_ix ht c_20).1 (tT_ix ht c_20).2 (Nat.le_of_ble_eq_true rfl) dX6_type_35 (fun H locs hP hD hS => ?_)
      have hP : va_P D vwCl [oM m0 m1 m2 m3 m4 m5 m6 mf, aI cI m5 60 (upd mx ((mf 2).toNatClampNeg) p1)] H := hP
      have hD : va_D A [oM m0 m1 m2 m3 m4 m5 m6 mf, aI cI m5 60 (upd mx ((mf 2).toNatClampNeg) p1)] := hD
      refine lv_aload_n hx hb dX6_type_36 rfl (lv_at hl 0 rfl) ?_
      refine lv_dup hx hb dX6_type_37 rfl ?_
      refine ag_getX6 (v := .int (mf 2)) hx hb hG hown hK hP 0 7 rfl (by decide) k_543 rfl dX6_type_38 ?_
      refine lv_iconst (v := 1) hx hb dX6_type_41 (by decide) ?_
      refine lv_iadd hx hb dX6_type_42 ?_
      refine ag_putX6 hx hb hG hown hK hP hD hS 0 7 rfl (by decide) k_543 (by decide) rfl rfl (Nat.le_of_ble_eq_true rfl) dX6_type_43 (fun H locs hP hD hS => ?_)
      have hP : va_P D vwCl [oM m0 m1 m2 m3 m4 m5 m6 (upd mf 2 ((mf 2) + 1)), aI cI m5 60 (upd mx ((mf 2).toNatClampNeg) p1)] H := hP
      have hD : va_D A [oM m0 m1 m2 m3 m4 m5 m6 (upd mf 2 ((mf 2) + 1)), aI cI m5 60 (upd mx ((mf 2).toNatClampNeg) p1)] := hD
      refine lv_aload_n hx hb dX6_type_46 rfl (lv_at hl 0 rfl) ?_
      refine ag_getX6 (v := .int ((mf 2) + 1)) hx hb hG hown hK hP 0 7 rfl (by decide) k_543 rfl dX6_type_47 ?_
      exact ag_iret [m0, m5] hx hb hr rfl hlocks hP hS rfl rfl ⟨(by unfold sr_X6_type; rw [if_neg c_8, if_neg c_20]), (by show _ = _; rw [show sw0_X6_type mf p1 = upd mf 2 ((mf 2) + 1) from (by unfold sw0_X6_type; rw [if_neg c_8, if_neg c_20]), show sw1_X6_type mf mx p1 = upd mx ((mf 2).toNatClampNeg) p1 from (by unfold sw1_X6_type; rw [if_neg c_8, if_neg c_20])])⟩ dX6_type_50
    · refine lv_ldc (v := (-1000000003)) hx hb hown (hG _ k_635) dX6_type_23 ?_
      exact ag_iret [m0, m5] hx hb hr rfl hlocks hP hS rfl rfl ⟨(by unfold sr_X6_type; rw [if_neg c_8, if_pos c_20]), (by show _ = _; rw [show sw0_X6_type mf p1 = mf from (by unfold sw0_X6_type; rw [if_neg c_8, if_pos c_20]), show sw1_X6_type mf mx p1 = mx from (by unfold sw1_X6_type; rw [if_neg c_8, if_pos c_20])])⟩ dX6_type_25
  · refine lv_ldc (v := (-1000000001)) hx hb hown (hG _ k_618) dX6_type_11 ?_
    exact ag_iret [m0, m5] hx hb hr rfl hlocks hP hS rfl rfl ⟨(by unfold sr_X6_type; rw [if_pos c_8]), (by show _ = _; rw [show sw0_X6_type mf p1 = mf from (by unfold sw0_X6_type; rw [if_pos c_8]), show sw1_X6_type mf mx p1 = mx from (by unfold sw1_X6_type; rw [if_pos c_8])])⟩ dX6_type_13
def sr_X6_clearText (mf : Nat → Int32) : Int32 := mf 2
def sw0_X6_clearText (mf : Nat → Int32) : Nat → Int32 := upd mf 2 0
abbrev po_X6_clearText (cI cC cL : ClassId) (m0 m1 m2 m3 m4 m5 m6 : Nat) (mf : Nat → Int32) : Int32 → va_W → Prop := fun r w' => sr_X6_clearText mf = r ∧ [oM m0 m1 m2 m3 m4 m5 m6 (sw0_X6_clearText mf)] = w'
set_option maxHeartbeats 4000000 in
set_option maxRecDepth 100000 in
theorem ct_X6_clearText (l : Launch) (D : va_G) (cI cC cL : ClassId) (m0 m1 m2 m3 m4 m5 m6 : Nat) (mf : Nat → Int32) : ag_MI l yX6_clearText cX6_clearText 2 .int 0 0 D cI cC cL [.ref m0] [oM m0 m1 m2 m3 m4 m5 m6 mf] (po_X6_clearText cI cC cL m0 m1 m2 m3 m4 m5 m6 mf) := by
  refine ag_MI.of (plainFor_of_name (by decide)) (Nat.le_of_ble_eq_true rfl) ?_
  intro p e s m below meth c hx hb hr hlocks hml hown hmn hG hK A hN hA H locs hP hD hS ls hl
  have hl : lv_has ls 2 [(0, .ref m0)] := hl
  refine lv_aload_n hx hb dX6_clearText_0 rfl (lv_at hl 0 rfl) ?_
  refine ag_getX6 (v := .int (mf 2)) hx hb hG hown hK hP 0 7 rfl (by decide) k_543 rfl dX6_clearText_1 ?_
  refine lv_istore_n (lv' := [(1, .int (mf 2)), (0, .ref m0)]) hx hb dX6_clearText_4 rfl hl (by decide) rfl (fun ls hl => ?_)
  refine lv_aload_n hx hb dX6_clearText_5 rfl (lv_at hl 1 rfl) ?_
  refine lv_iconst (v := 0) hx hb dX6_clearText_6 (by decide) ?_
  refine ag_putX6 hx hb hG hown hK hP hD hS 0 7 rfl (by decide) k_543 (by decide) rfl rfl (Nat.le_of_ble_eq_true rfl) dX6_clearText_7 (fun H locs hP hD hS => ?_)
  have hP : va_P D vwCl [oM m0 m1 m2 m3 m4 m5 m6 (upd mf 2 0)] H := hP
  have hD : va_D A [oM m0 m1 m2 m3 m4 m5 m6 (upd mf 2 0)] := hD
  refine lv_iload_n hx hb dX6_clearText_10 rfl (lv_at hl 0 rfl) ?_
  exact ag_iret [m0] hx hb hr rfl hlocks hP hS rfl rfl ⟨rfl, (by show _ = _; rw [show sw0_X6_clearText mf = upd mf 2 0 from rfl])⟩ dX6_clearText_11
