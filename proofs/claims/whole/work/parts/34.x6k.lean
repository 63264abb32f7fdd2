/-! the model: signs, numbers -/
def sr_X6_isAt (mf : Nat → Int32) (mx : Nat → Int32) (p1 : Int32) (p2 : Int32) : Int32 := if (mf 2) ≤ (mf 10) then 0 else if (sr_X6_in (mx (sp mf)) p1 p2) = 0 then 0 else 1
abbrev po_X6_isAt (cI cC cL : ClassId) (m0 m1 m2 m3 m4 m5 m6 : Nat) (mf mx : Nat → Int32) (p1 : Int32) (p2 : Int32) (hs : tq mf) : Int32 → va_W → Prop := fun r w' => sr_X6_isAt mf mx p1 p2 = r ∧ [oM m0 m1 m2 m3 m4 m5 m6 mf, aI cI m5 60 mx] = w'
set_option maxHeartbeats 4000000 in
set_option maxRecDepth 100000 in
theorem ct_X6_isAt (l : Launch) (D : va_G) (cI cC cL : ClassId) (m0 m1 m2 m3 m4 m5 m6 : Nat) (mf mx : Nat → Int32) (p1 : Int32) (p2 : Int32) (hs : tq mf) : ag_MI l yX6_isAt cX6_isAt 3 .boolean 1 22 D cI cC cL [.ref m0, .int p1, .int p2] [oM m0 m1 m2 m3 m4 m5 m6 mf, aI cI m5 60 mx] (po_X6_isAt cI cC cL m0 m1 m2 m3 m4 m5 m6 mf mx p1 p2 hs) := by
  refine ag_MI.of (plainFor_of_name (by decide)) (Nat.le_of_ble_eq_true rfl) ?_
  intro p e s m below meth c hx hb hr hlocks hml hown hmn hG hK A hN hA H locs hP hD hS ls hl
  have hl : lv_has ls 3 [(0, .ref m0), (1, .int p1), (2, .int p2)] := hl
  refine lv_aload_n hx hb dX6_isAt_0 rfl (lv_at hl 0 rfl) ?_
  refine ag_getX6 (v := .int (mf 10)) hx hb hG hown hK hP 0 15 rfl (by decide) k_551 rfl dX6_isAt_1 ?_
  refine lv_aload_n hx hb dX6_isAt_4 rfl (lv_at hl 0 rfl) ?_
  refine ag_getX6 (v := .int (mf 2)) hx hb hG hown hK hP 0 7 rfl (by decide) k_543 rfl dX6_isAt_5 ?_
  refine lv_icmp_ge (tgt := 32) hx hb dX6_isAt_8 (by decide) (fun c_8 => ?_) (fun c_8 => ?_)
  · refine lv_iconst (v := 0) hx hb dX6_isAt_32 (by decide) ?_
    exact ag_iret [m0, m5] hx hb hr (by decide) hlocks hP hS rfl rfl ⟨(by unfold sr_X6_isAt; rw [if_pos c_8]), rfl⟩ dX6_isAt_33
  · refine lv_aload_n hx hb dX6_isAt_11 rfl (lv_at hl 0 rfl) ?_
    refine ag_getX6 (v := .ref m5) hx hb hG hown hK hP 0 6 rfl (by decide) k_542 rfl dX6_isAt_12 ?_
    refine lv_aload_n hx hb dX6_isAt_15 rfl (lv_at hl 0 rfl) ?_
    refine ag_getX6 (v := .int (mf 10)) hx hb hG hown hK hP 0 15 rfl (by decide) k_551 rfl dX6_isAt_16 ?_
    refine ag_ild (k := sp mf) (v := mx (sp mf)) hx hb hK hP 1 rfl (tq_ix hs c_8).1 (tq_ix hs c_8).2 (Nat.le_of_ble_eq_true rfl) rfl dX6_isAt_19 ?_
    refine lv_iload_n hx hb dX6_isAt_20 rfl (lv_at hl 1 rfl) ?_
    refine lv_iload_n hx hb dX6_isAt_21 rfl (lv_at hl 2 rfl) ?_
    refine ag_callSi (As := [.int (mx (sp mf)), .int p1, .int p2]) (rest := []) hx hb hml hown hG hK hN hA hP hD hS hl (ct_X6_in l D cI cC cL (mx (sp mf)) p1 p2) fX6_in k_607 ag_cut_0 rfl (Nat.le_of_ble_eq_true rfl) ⟨Nat.le_of_ble_eq_true rfl, Nat.le_of_ble_eq_true rfl⟩ ⟨Nat.zero_le _, Nat.zero_le _⟩ dX6_isAt_22 (fun r w1 H locs hw hP hD hS => ?_)
    obtain ⟨rfl, hw⟩ := hw
    subst hw
    have hP : va_P D vwCl [oM m0 m1 m2 m3 m4 m5 m6 mf, aI cI m5 60 mx] H := hP
    have hD : va_D A [oM m0 m1 m2 m3 m4 m5 m6 mf, aI cI m5 60 mx] := hD
    refine lv_if_eq (tgt := 32) hx hb dX6_isAt_25 (by decide) (fun c_25 => ?_) (fun c_25 => ?_)
    · refine lv_iconst (v := 0) hx hb dX6_isAt_32 (by decide) ?_
      exact ag_iret [m0, m5] hx hb hr (by decide) hlocks hP hS rfl rfl ⟨(by unfold sr_X6_isAt; rw [if_neg c_8, if_pos c_25]), rfl⟩ dX6_isAt_33
    · refine lv_iconst (v := 1) hx hb dX6_isAt_28 (by decide) ?_
      refine lv_goto (tgt := 33) hx hb dX6_isAt_29 (by decide) ?_
      exact ag_iret [m0, m5] hx hb hr (by decide) hlocks hP hS rfl rfl ⟨(by unfold sr_X6_isAt; rw [if_neg c_8, if_neg c_25]), rfl⟩ dX6_isAt_33
theorem isAt_lt {mf mx : Nat → Int32} {a b : Int32} (h : ¬ sr_X6_isAt mf mx a b = 0) : ¬ mf 2 ≤ mf 10 := by
  intro h1
  unfold sr_X6_isAt at h
  rw [if_pos h1] at h
  exact h rfl
theorem isAt_01 (mf mx : Nat → Int32) (a b : Int32) : sr_X6_isAt mf mx a b = 0 ∨ sr_X6_isAt mf mx a b = 1 := by
  unfold sr_X6_isAt
  split
  · exact Or.inl rfl
  · split
    · exact Or.inl rfl
    · exact Or.inr rfl
theorem tq_inc {mf : Nat → Int32} (h : tq mf) (h0 : ¬ mf 2 ≤ mf 10) : tq (upd mf 10 (mf 10 + 1)) := by
  obtain ⟨S, T, h1, h2, h3, h4⟩ := h
  refine ⟨S + 1, T, ?_, h2, ?_, h4⟩
  · show mf 10 + 1 = _
    rw [h1, nI_1]
  · have : ¬ T ≤ S := fun e => h0 (by rw [h1, h2]; exact (nI_leI (by omega) (by omega)).mpr e)
    omega
theorem tq_eq {mf mg : Nat → Int32} (h : tq mf) (h1 : mg 10 = mf 10) (h2 : mg 2 = mf 2) : tq mg := by
  unfold tq; rw [h1, h2]; exact h
def j21_0_X6_sign (mf : Nat → Int32) (mx : Nat → Int32) (p1 : Int32) : Int32 := if (sr_X6_isAt mf mx p1 p1) = 0 then 0 else 1
def xv22_1_X6_sign (mf : Nat → Int32) (mx : Nat → Int32) (p1 : Int32) : Int32 := (mf 10) + (j21_0_X6_sign mf mx p1)
def sr_X6_sign (mf : Nat → Int32) (mx : Nat → Int32) (p1 : Int32) : Int32 := sr_X6_isAt mf mx p1 p1
def sw0_X6_sign (mf : Nat → Int32) (mx : Nat → Int32) (p1 : Int32) : Nat → Int32 := upd mf 10 (xv22_1_X6_sign mf mx p1)
abbrev po_X6_sign (cI cC cL : ClassId) (m0 m1 m2 m3 m4 m5 m6 : Nat) (mf mx : Nat → Int32) (p1 : Int32) (hs : tq mf) : Int32 → va_W → Prop := fun r w' => sr_X6_sign mf mx p1 = r ∧ [oM m0 m1 m2 m3 m4 m5 m6 (sw0_X6_sign mf mx p1), aI cI m5 60 mx] = w'
set_option maxHeartbeats 4000000 in
set_option maxRecDepth 100000 in
theorem ct_X6_sign (l : Launch) (D : va_G) (cI cC cL : ClassId) (m0 m1 m2 m3 m4 m5 m6 : Nat) (mf mx : Nat → Int32) (p1 : Int32) (hs : tq mf) : ag_MI l yX6_sign cX6_sign 3 .boolean 2 44 D cI cC cL [.ref m0, .int p1] [oM m0 m1 m2 m3 m4 m5 m6 mf, aI cI m5 60 mx] (po_X6_sign cI cC cL m0 m1 m2 m3 m4 m5 m6 mf mx p1 hs) := by
  refine ag_MI.of (plainFor_of_name (by decide)) (Nat.le_of_ble_eq_true rfl) ?_
  intro p e s m below meth c hx hb hr hlocks hml hown hmn hG hK A hN hA H locs hP hD hS ls hl
  have hl : lv_has ls 3 [(0, .ref m0), (1, .int p1)] := hl
  refine lv_aload_n hx hb dX6_sign_0 rfl (lv_at hl 0 rfl) ?_
  refine lv_iload_n hx hb dX6_sign_1 rfl (lv_at hl 1 rfl) ?_
  refine lv_iload_n hx hb dX6_sign_2 rfl (lv_at hl 1 rfl) ?_
  refine ag_callVi (As := [.int p1, .int p1]) (rest := []) hx hb hml hown hG hK hN hA hP hD hS hl (ct_X6_isAt l D cI cC cL m0 m1 m2 m3 m4 m5 m6 mf mx p1 p1 hs) fX6_isAt k_772 ag_cut_all (q0 := 0) rfl rfl rfl rfl (Nat.le_of_ble_eq_true rfl) ⟨Nat.le_of_ble_eq_true rfl, Nat.le_of_ble_eq_true rfl⟩ ⟨Nat.zero_le _, Nat.zero_le _⟩ dX6_sign_3 (fun r w1 H locs hw hP hD hS => ?_)
  obtain ⟨rfl, hw⟩ := hw
  subst hw
  have hP : va_P D vwCl [oM m0 m1 m2 m3 m4 m5 m6 mf, aI cI m5 60 mx] H := hP
  have hD : va_D A [oM m0 m1 m2 m3 m4 m5 m6 mf, aI cI m5 60 mx] := hD
  refine lv_istore_n (lv' := [(2, .int (sr_X6_isAt mf mx p1 p1)), (0, .ref m0), (1, .int p1)]) hx hb dX6_sign_6 rfl hl (by decide) rfl (fun ls hl => ?_)
  refine lv_aload_n hx hb dX6_sign_7 rfl (lv_at hl 1 rfl) ?_
  refine lv_dup hx hb dX6_sign_8 rfl ?_
  refine ag_getX6 (v := .int (mf 10)) hx hb hG hown hK hP 0 15 rfl (by decide) k_551 rfl dX6_sign_9 ?_
  refine lv_iload_n hx hb dX6_sign_12 rfl (lv_at hl 0 rfl) ?_
  have J21 : ∀ (ls : Array Slot), lv_has ls 3 [(0, .ref m0), (1, .int p1), (2, .int (sr_X6_isAt mf mx p1 p1))] → W p l e (ag_rm 2 44) s m ([.ref m0, .int p1] : List Value).toArray below meth c H locs 0 0 (MQ below (va_Qi (po_X6_sign cI cC cL m0 m1 m2 m3 m4 m5 m6 mf mx p1 hs) (ag_Out D [oM m0 m1 m2 m3 m4 m5 m6 mf, aI cI m5 60 mx]) A) ([.ref m0, .int p1] : List Value).toArray s 0 0 A) (F0 m 21 ls [.int (j21_0_X6_sign mf mx p1), .int (mf 10), .ref m0]) := by
    intro ls hl
    refine lv_iadd hx hb dX6_sign_21 ?_
    refine ag_topn (v := xv22_1_X6_sign mf mx p1) rfl (fun x22_1 ex22_1 => ?_)
    refine ag_putX6 hx hb hG hown hK hP hD hS 0 15 rfl (by decide) k_551 (by decide) rfl rfl (Nat.le_of_ble_eq_true rfl) dX6_sign_22 (fun H locs hP hD hS => ?_)
    have hP : va_P D vwCl [oM m0 m1 m2 m3 m4 m5 m6 (upd mf 10 x22_1), aI cI m5 60 mx] H := hP
    have hD : va_D A [oM m0 m1 m2 m3 m4 m5 m6 (upd mf 10 x22_1), aI cI m5 60 mx] := hD
    refine lv_iload_n hx hb dX6_sign_25 rfl (lv_at hl 2 rfl) ?_
    revert hP; revert hD; revert hS; revert hl
    subst ex22_1
    intro hl hS hD hP
    exact ag_iret [m0, m5] hx hb hr (by rcases isAt_01 mf mx p1 p1 with h | h <;> rw [h] <;> decide) hlocks hP hS rfl rfl ⟨rfl, (by show _ = _; rw [show sw0_X6_sign mf mx p1 = upd mf 10 (xv22_1_X6_sign mf mx p1) from rfl])⟩ dX6_sign_26
  refine lv_if_eq (tgt := 20) hx hb dX6_sign_13 (by decide) (fun c_13 => ?_) (fun c_13 => ?_)
  · refine lv_iconst (v := 0) hx hb dX6_sign_20 (by decide) ?_
    simp only [j21_0_X6_sign, if_pos c_13] at J21
    exact J21 _ (lv_sub hl [1, 2, 0] rfl)
  · refine lv_iconst (v := 1) hx hb dX6_sign_16 (by decide) ?_
    refine lv_goto (tgt := 21) hx hb dX6_sign_17 (by decide) ?_
    simp only [j21_0_X6_sign, if_neg c_13] at J21
    exact J21 _ (lv_sub hl [1, 2, 0] rfl)
theorem tq_sign {mf mx : Nat → Int32} {a : Int32} (h : tq mf) : tq (sw0_X6_sign mf mx a) := by
  show tq (upd mf 10 (mf 10 + (if sr_X6_isAt mf mx a a = 0 then 0 else 1)))
  split
  · rw [Int32.add_zero]
    exact tq_eq h rfl rfl
  · rename_i h1
    exact tq_inc h (isAt_lt h1)
abbrev nbu : Type := (Nat → Int32) × (Nat → Int32)
def nbS (mx : Nat → Int32) (W : Nat) (x : nbu) : nbu := (upd x.1 10 (x.1 10 + 1), upd x.2 W (((10 * x.2 W) + mx (sp x.1)) - 48))
def nbL (mx : Nat → Int32) (W : Nat) : Nat → nbu → nbu
  | 0, x => x
  | n + 1, x => if sr_X6_isAt x.1 mx 48 57 = 0 then x else nbL mx W n (nbS mx W x)
theorem nb_a {mx : Nat → Int32} {W n : Nat} {x : nbu} (h : sr_X6_isAt x.1 mx 48 57 = 0) : nbL mx W (n + 1) x = x := by rw [nbL, if_pos h]
theorem nb_b {mx : Nat → Int32} {W n : Nat} {x : nbu} (h : ¬ sr_X6_isAt x.1 mx 48 57 = 0) : nbL mx W (n + 1) x = nbL mx W n (nbS mx W x) := by rw [nbL, if_neg h]
theorem nb_tq {mx : Nat → Int32} {W : Nat} : ∀ (n : Nat) (x : nbu), tq x.1 → tq (nbL mx W n x).1
  | 0, _, h => h
  | n + 1, x, h => by
    by_cases c : sr_X6_isAt x.1 mx 48 57 = 0
    · rw [nb_a c]; exact h
    · rw [nb_b c]; exact nb_tq n (nbS mx W x) (tq_inc h (isAt_lt c))
def nbX (mf mx md : Nat → Int32) (W : Nat) : nbu := nbL mx W 3 (mf, upd md W 0)
def sr_X6_numbered (mf mx md : Nat → Int32) (W : Nat) : Int32 := if (nbX mf mx md W).1 10 ≤ mf 10 then 0 else 1
theorem nb_inc {x y z : Int32} {i : Nat} (h : x - y = nI i) : (x + 1) - y = nI (i + 1) := by
  rw [← nI_1, ← h, Int32.sub_eq_add_neg, Int32.sub_eq_add_neg, Int32.add_assoc, Int32.add_comm 1, ← Int32.add_assoc]
abbrev po_X6_numbered (cI cC cL : ClassId) (m0 m1 m2 m3 m4 m5 m6 : Nat) (mf mx md : Nat → Int32) (p1 : Int32) (wi : Nat) (hwi : p1 = nI wi ∧ wi < 2) (hs : tq mf) : Int32 → va_W → Prop := fun r w' => sr_X6_numbered mf mx md wi = r ∧ [oM m0 m1 m2 m3 m4 m5 m6 ((nbX mf mx md wi).1), aI cI m5 60 mx, aI cI m6 2 ((nbX mf mx md wi).2)] = w'
set_option maxHeartbeats 4000000 in
set_option maxRecDepth 100000 in
theorem ct_X6_numbered (l : Launch) (D : va_G) (cI cC cL : ClassId) (m0 m1 m2 m3 m4 m5 m6 : Nat) (mf mx md : Nat → Int32) (p1 : Int32) (wi : Nat) (hwi : p1 = nI wi ∧ wi < 2) (hs : tq mf) : ag_MI l yX6_numbered cX6_numbered 3 .boolean 2 44 D cI cC cL [.ref m0, .int p1] [oM m0 m1 m2 m3 m4 m5 m6 mf, aI cI m5 60 mx, aI cI m6 2 md] (po_X6_numbered cI cC cL m0 m1 m2 m3 m4 m5 m6 mf mx md p1 wi hwi hs) := by
  refine ag_MI.of (plainFor_of_name (by decide)) (Nat.le_of_ble_eq_true rfl) ?_
  intro p e s m below meth c hx hb hr hlocks hml hown hmn hG hK A hN hA H locs hP hD hS ls hl
  have hl : lv_has ls 3 [(0, .ref m0), (1, .int p1)] := hl
  refine lv_aload_n hx hb dX6_numbered_0 rfl (lv_at hl 0 rfl) ?_
  refine ag_getX6 (v := .int (mf 10)) hx hb hG hown hK hP 0 15 rfl (by decide) k_551 rfl dX6_numbered_1 ?_
  refine lv_istore_n (lv' := [(2, .int (mf 10)), (0, .ref m0), (1, .int p1)]) hx hb dX6_numbered_4 rfl hl (by decide) rfl (fun ls hl => ?_)
  refine lv_aload_n hx hb dX6_numbered_5 rfl (lv_at hl 1 rfl) ?_
  refine ag_getX6 (v := .ref m6) hx hb hG hown hK hP 0 21 rfl (by decide) k_557 rfl dX6_numbered_6 ?_
  refine lv_iload_n hx hb dX6_numbered_9 rfl (lv_at hl 2 rfl) ?_
  refine lv_iconst (v := 0) hx hb dX6_numbered_10 (by decide) ?_
  refine ag_ist (k := wi) hx hb hK hP hD hS 2 rfl hwi.1 hwi.2 (Nat.le_of_ble_eq_true rfl) dX6_numbered_11 (fun H locs hP hD hS => ?_)
  have hP : va_P D vwCl [oM m0 m1 m2 m3 m4 m5 m6 mf, aI cI m5 60 mx, aI cI m6 2 (upd md wi 0)] H := hP
  have hD : va_D A [oM m0 m1 m2 m3 m4 m5 m6 mf, aI cI m5 60 mx, aI cI m6 2 (upd md wi 0)] := hD
  suffices L12 : ∀ (n : Nat) (i : Nat) (fi di : Nat → Int32), (hi : i + n = 3) → (ht : tq fi) → (hd : fi 10 - mf 10 = nI i) → (hR : nbL mx wi n (fi, di) = nbL mx wi 3 (mf, upd md wi 0)) → ∀ (H : Heap) (locs : List Loc) (ls : Array Slot), lv_has ls 3 [(0, .ref m0), (1, .int p1), (2, .int (mf 10))] → va_P D vwCl [oM m0 m1 m2 m3 m4 m5 m6 fi, aI cI m5 60 mx, aI cI m6 2 di] H → va_D A [oM m0 m1 m2 m3 m4 m5 m6 fi, aI cI m5 60 mx, aI cI m6 2 di] → va_S A s.heap H locs → W p l e (ag_rm 2 44) s m ([.ref m0, .int p1] : List Value).toArray below meth c H locs 0 0 (MQ below (va_Qi (po_X6_numbered cI cC cL m0 m1 m2 m3 m4 m5 m6 mf mx md p1 wi hwi hs) (ag_Out D [oM m0 m1 m2 m3 m4 m5 m6 mf, aI cI m5 60 mx, aI cI m6 2 md]) A) ([.ref m0, .int p1] : List Value).toArray s 0 0 A) (F0 m 12 ls []) from L12 3 0 mf (upd md wi 0) (by omega) hs (Int32.sub_self _) rfl H locs ls (lv_sub hl [1, 2, 0] rfl) hP hD hS
  intro n
  induction n with
  | zero =>
    intro i fi di hi ht hd hR H locs ls hl hP hD hS
    refine lv_aload_n hx hb dX6_numbered_12 rfl (lv_at hl 0 rfl) ?_
    refine lv_bipush (v := 48) hx hb dX6_numbered_13 (by decide) ?_
    refine lv_bipush (v := 57) hx hb dX6_numbered_15 (by decide) ?_
    refine ag_callVi (As := [.int 48, .int 57]) (rest := []) hx hb hml hown hG hK hN hA hP hD hS hl (ct_X6_isAt l D cI cC cL m0 m1 m2 m3 m4 m5 m6 fi mx 48 57 ht) fX6_isAt k_772 (ag_cut_1 [] [aI cI m6 2 di] rfl) (q0 := 0) rfl rfl rfl rfl (Nat.le_of_ble_eq_true rfl) ⟨Nat.le_of_ble_eq_true rfl, Nat.le_of_ble_eq_true rfl⟩ ⟨Nat.zero_le _, Nat.zero_le _⟩ dX6_numbered_17 (fun r w1 H locs hw hP hD hS => ?_)
    obtain ⟨rfl, hw⟩ := hw
    subst hw
    have hP : va_P D vwCl [oM m0 m1 m2 m3 m4 m5 m6 fi, aI cI m5 60 mx, aI cI m6 2 di] H := hP
    have hD : va_D A [oM m0 m1 m2 m3 m4 m5 m6 fi, aI cI m5 60 mx, aI cI m6 2 di] := hD
    refine lv_if_eq (tgt := 74) hx hb dX6_numbered_20 (by decide) (fun c_20 => ?_) (fun c_20 => ?_)
    · refine lv_aload_n hx hb dX6_numbered_74 rfl (lv_at hl 0 rfl) ?_
      refine ag_getX6 (v := .int (fi 10)) hx hb hG hown hK hP 0 15 rfl (by decide) k_551 rfl dX6_numbered_75 ?_
      refine lv_iload_n hx hb dX6_numbered_78 rfl (lv_at hl 2 rfl) ?_
      refine lv_icmp_le (tgt := 86) hx hb dX6_numbered_79 (by decide) (fun c_79 => ?_) (fun c_79 => ?_)
      · refine lv_iconst (v := 0) hx hb dX6_numbered_86 (by decide) ?_
        exact ag_iret [m0, m5, m6] hx hb hr (by decide) hlocks hP hS rfl rfl ⟨(by unfold sr_X6_numbered nbX; rw [← hR]; show (if fi 10 ≤ mf 10 then (0 : Int32) else 1) = _; rw [if_pos c_79]), (by show _ = _; unfold nbX; rw [← hR]; rfl)⟩ dX6_numbered_87
      · refine lv_iconst (v := 1) hx hb dX6_numbered_82 (by decide) ?_
        refine lv_goto (tgt := 87) hx hb dX6_numbered_83 (by decide) ?_
        exact ag_iret [m0, m5, m6] hx hb hr (by decide) hlocks hP hS rfl rfl ⟨(by unfold sr_X6_numbered nbX; rw [← hR]; show (if fi 10 ≤ mf 10 then (0 : Int32) else 1) = _; rw [if_neg c_79]), (by show _ = _; unfold nbX; rw [← hR]; rfl)⟩ dX6_numbered_87
    · refine lv_aload_n hx hb dX6_numbered_23 rfl (lv_at hl 0 rfl) ?_
      refine ag_getX6 (v := .int (fi 10)) hx hb hG hown hK hP 0 15 rfl (by decide) k_551 rfl dX6_numbered_24 ?_
      refine lv_iload_n hx hb dX6_numbered_27 rfl (lv_at hl 2 rfl) ?_
      refine lv_isub hx hb dX6_numbered_28 ?_
      refine lv_iconst (v := 3) hx hb dX6_numbered_29 (by decide) ?_
      refine lv_icmp_ge (tgt := 74) hx hb dX6_numbered_30 (by decide) (fun _ => ?_) (fun h0 => absurd (by rw [hd]; exact (nI_leI (a := 3) (by decide) (by omega)).mpr (by omega)) h0)
      refine lv_aload_n hx hb dX6_numbered_74 rfl (lv_at hl 0 rfl) ?_
      refine ag_getX6 (v := .int (fi 10)) hx hb hG hown hK hP 0 15 rfl (by decide) k_551 rfl dX6_numbered_75 ?_
      refine lv_iload_n hx hb dX6_numbered_78 rfl (lv_at hl 2 rfl) ?_
      refine lv_icmp_le (tgt := 86) hx hb dX6_numbered_79 (by decide) (fun c_79 => ?_) (fun c_79 => ?_)
      · refine lv_iconst (v := 0) hx hb dX6_numbered_86 (by decide) ?_
        exact ag_iret [m0, m5, m6] hx hb hr (by decide) hlocks hP hS rfl rfl ⟨(by unfold sr_X6_numbered nbX; rw [← hR]; show (if fi 10 ≤ mf 10 then (0 : Int32) else 1) = _; rw [if_pos c_79]), (by show _ = _; unfold nbX; rw [← hR]; rfl)⟩ dX6_numbered_87
      · refine lv_iconst (v := 1) hx hb dX6_numbered_82 (by decide) ?_
        refine lv_goto (tgt := 87) hx hb dX6_numbered_83 (by decide) ?_
        exact ag_iret [m0, m5, m6] hx hb hr (by decide) hlocks hP hS rfl rfl ⟨(by unfold sr_X6_numbered nbX; rw [← hR]; show (if fi 10 ≤ mf 10 then (0 : Int32) else 1) = _; rw [if_neg c_79]), (by show _ = _; unfold nbX; rw [← hR]; rfl)⟩ dX6_numbered_87
  | succ n ih =>
    intro i fi di hi ht hd hR H locs ls hl hP hD hS
    refine lv_aload_n hx hb dX6_numbered_12 rfl (lv_at hl 0 rfl) ?_
    refine lv_bipush (v := 48) hx hb dX6_numbered_13 (by decide) ?_
    refine lv_bipush (v := 57) hx hb dX6_numbered_15 (by decide) ?_
    refine ag_callVi (As := [.int 48, .int 57]) (rest := []) hx hb hml hown hG hK hN hA hP hD hS hl (ct_X6_isAt l D cI cC cL m0 m1 m2 m3 m4 m5 m6 fi mx 48 57 ht) fX6_isAt k_772 (ag_cut_1 [] [aI cI m6 2 di] rfl) (q0 := 0) rfl rfl rfl rfl (Nat.le_of_ble_eq_true rfl) ⟨Nat.le_of_ble_eq_true rfl, Nat.le_of_ble_eq_true rfl⟩ ⟨Nat.zero_le _, Nat.zero_le _⟩ dX6_numbered_17 (fun r w1 H locs hw hP hD hS => ?_)
    obtain ⟨rfl, hw⟩ := hw
    subst hw
    have hP : va_P D vwCl [oM m0 m1 m2 m3 m4 m5 m6 fi, aI cI m5 60 mx, aI cI m6 2 di] H := hP
    have hD : va_D A [oM m0 m1 m2 m3 m4 m5 m6 fi, aI cI m5 60 mx, aI cI m6 2 di] := hD
    refine lv_if_eq (tgt := 74) hx hb dX6_numbered_20 (by decide) (fun c_20 => ?_) (fun c_20 => ?_)
    · refine lv_aload_n hx hb dX6_numbered_74 rfl (lv_at hl 0 rfl) ?_
      refine ag_getX6 (v := .int (fi 10)) hx hb hG hown hK hP 0 15 rfl (by decide) k_551 rfl dX6_numbered_75 ?_
      refine lv_iload_n hx hb dX6_numbered_78 rfl (lv_at hl 2 rfl) ?_
      refine lv_icmp_le (tgt := 86) hx hb dX6_numbered_79 (by decide) (fun c_79 => ?_) (fun c_79 => ?_)
      · refine lv_iconst (v := 0) hx hb dX6_numbered_86 (by decide) ?_
        exact ag_iret [m0, m5, m6] hx hb hr (by decide) hlocks hP hS rfl rfl ⟨(by unfold sr_X6_numbered nbX; rw [← hR, nb_a c_20]; show (if fi 10 ≤ mf 10 then (0 : Int32) else 1) = _; rw [if_pos c_79]), (by show _ = _; unfold nbX; rw [← hR, nb_a c_20])⟩ dX6_numbered_87
      · refine lv_iconst (v := 1) hx hb dX6_numbered_82 (by decide) ?_
        refine lv_goto (tgt := 87) hx hb dX6_numbered_83 (by decide) ?_
        exact ag_iret [m0, m5, m6] hx hb hr (by decide) hlocks hP hS rfl rfl ⟨(by unfold sr_X6_numbered nbX; rw [← hR, nb_a c_20]; show (if fi 10 ≤ mf 10 then (0 : Int32) else 1) = _; rw [if_neg c_79]), (by show _ = _; unfold nbX; rw [← hR, nb_a c_20])⟩ dX6_numbered_87
    · refine lv_aload_n hx hb dX6_numbered_23 rfl (lv_at hl 0 rfl) ?_
      refine ag_getX6 (v := .int (fi 10)) hx hb hG hown hK hP 0 15 rfl (by decide) k_551 rfl dX6_numbered_24 ?_
      refine lv_iload_n hx hb dX6_numbered_27 rfl (lv_at hl 2 rfl) ?_
      refine lv_isub hx hb dX6_numbered_28 ?_
      refine lv_iconst (v := 3) hx hb dX6_numbered_29 (by decide) ?_
      refine lv_icmp_ge (tgt := 74) hx hb dX6_numbered_30 (by decide) (fun h0 => absurd h0 (by rw [hd]; exact (fun h => absurd ((nI_leI (a := 3) (by decide) (by omega)).mp h) (by omega)))) (fun _ => ?_)
      refine lv_aload_n hx hb dX6_numbered_33 rfl (lv_at hl 0 rfl) ?_
      refine ag_getX6 (v := .ref m6) hx hb hG hown hK hP 0 21 rfl (by decide) k_557 rfl dX6_numbered_34 ?_
      refine lv_iload_n hx hb dX6_numbered_37 rfl (lv_at hl 1 rfl) ?_
      refine lv_bipush (v := 10) hx hb dX6_numbered_38 (by decide) ?_
      refine lv_aload_n hx hb dX6_numbered_40 rfl (lv_at hl 0 rfl) ?_
      refine ag_getX6 (v := .ref m6) hx hb hG hown hK hP 0 21 rfl (by decide) k_557 rfl dX6_numbered_41 ?_
      refine lv_iload_n hx hb dX6_numbered_44 rfl (lv_at hl 1 rfl) ?_
      refine ag_ild (k := wi) (v := di wi) hx hb hK hP 2 rfl hwi.1 hwi.2 (Nat.le_of_ble_eq_true rfl) rfl dX6_numbered_45 ?_
      refine lv_imul hx hb dX6_numbered_46 ?_
      refine lv_aload_n hx hb dX6_numbered_47 rfl (lv_at hl 0 rfl) ?_
      refine ag_getX6 (v := .ref m5) hx hb hG hown hK hP 0 6 rfl (by decide) k_542 rfl dX6_numbered_48 ?_
      refine lv_aload_n hx hb dX6_numbered_51 rfl (lv_at hl 0 rfl) ?_
      refine ag_getX6 (v := .int (fi 10)) hx hb hG hown hK hP 0 15 rfl (by decide) k_551 rfl dX6_numbered_52 ?_
      refine ag_ild (k := sp fi) (v := mx (sp fi)) hx hb hK hP 1 rfl (tq_ix ht (isAt_lt c_20)).1 (tq_ix ht (isAt_lt c_20)).2 (Nat.le_of_ble_eq_true rfl) rfl dX6_numbered_55 ?_
      refine lv_iadd hx hb dX6_numbered_56 ?_
      refine lv_bipush (v := 48) hx hb dX6_numbered_57 (by decide) ?_
      refine lv_isub hx hb dX6_numbered_59 ?_
      refine ag_ist (k := wi) hx hb hK hP hD hS 2 rfl hwi.1 hwi.2 (Nat.le_of_ble_eq_true rfl) dX6_numbered_60 (fun H locs hP hD hS => ?_)
      have hP : va_P D vwCl [oM m0 m1 m2 m3 m4 m5 m6 fi, aI cI m5 60 mx, aI cI m6 2 (upd di wi (((10 * (di wi)) + (mx (sp fi))) - 48))] H := hP
      have hD : va_D A [oM m0 m1 m2 m3 m4 m5 m6 fi, aI cI m5 60 mx, aI cI m6 2 (upd di wi (((10 * (di wi)) + (mx (sp fi))) - 48))] := hD
      refine lv_aload_n hx hb dX6_numbered_61 rfl (lv_at hl 0 rfl) ?_
      refine lv_dup hx hb dX6_numbered_62 rfl ?_
      refine ag_getX6 (v := .int (fi 10)) hx hb hG hown hK hP 0 15 rfl (by decide) k_551 rfl dX6_numbered_63 ?_
      refine lv_iconst (v := 1) hx hb dX6_numbered_66 (by decide) ?_
      refine lv_iadd hx hb dX6_numbered_67 ?_
      refine ag_putX6 hx hb hG hown hK hP hD hS 0 15 rfl (by decide) k_551 (by decide) rfl rfl (Nat.le_of_ble_eq_true rfl) dX6_numbered_68 (fun H locs hP hD hS => ?_)
      have hP : va_P D vwCl [oM m0 m1 m2 m3 m4 m5 m6 (upd fi 10 ((fi 10) + 1)), aI cI m5 60 mx, aI cI m6 2 (upd di wi (((10 * (di wi)) + (mx (sp fi))) - 48))] H := hP
      have hD : va_D A [oM m0 m1 m2 m3 m4 m5 m6 (upd fi 10 ((fi 10) + 1)), aI cI m5 60 mx, aI cI m6 2 (upd di wi (((10 * (di wi)) + (mx (sp fi))) - 48))] := hD
      refine lv_goto (tgt := 12) hx hb dX6_numbered_71 (by decide) ?_
      exact ih (i + 1) (upd fi 10 (fi 10 + 1)) (upd di wi (((10 * di wi) + mx (sp fi)) - 48)) (by omega) (tq_inc ht (isAt_lt c_20)) (nb_inc (z := 0) hd) ((nb_b (x := (fi, di)) c_20).symm.trans hR) H locs ls (lv_sub hl [0, 1, 2] rfl) hP hD hS
theorem nbX_tq {mf mx md : Nat → Int32} {W : Nat} (h : tq mf) : tq (nbX mf mx md W).1 := nb_tq 3 _ h
