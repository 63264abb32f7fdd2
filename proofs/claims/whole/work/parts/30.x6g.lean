/-! the model: ticks, copies, changes -/
theorem opW_mq {ms : Nat → Int32} {d : Int32} {N : Nat} (hq : ms 18 = nI N ∧ N ≤ 10) : mq (opW ms d N) := opW_18 hq
theorem mq_tick {mf ms : Nat → Int32} (hq : mq ms) : mq (sw1_X6_tick mf ms) := by
  have u : ∀ (f : Nat → Int32) (k : Nat) (v : Int32), k ≠ 18 → upd f k v 18 = f 18 := fun f k v h => by unfold upd; rw [if_neg (fun h2 => h h2.symm)]
  have h : mq (gv183_11_X6_tick mf ms) := opW_18 (mq_at (ms := ms) hq)
  obtain ⟨N, h1, h2⟩ := h
  refine ⟨N, ?_, h2⟩
  unfold sw1_X6_tick
  rw [u _ _ _ (by omega), u _ _ _ (by omega), u _ _ _ (by omega), u _ _ _ (by omega), u _ _ _ (by omega), u _ _ _ (by omega)]
  exact h1
abbrev mtu : Type := (Nat → Int32) × (Nat → Int32)
def mtS (x : mtu) : mtu := (sw0_X6_tick x.1 x.2, sw1_X6_tick x.1 x.2)
def mtl : Nat → mtu → mtu
  | 0, x => x
  | n + 1, x => mtl n (mtS x)
theorem mtl_mq : ∀ (n : Nat) (x : mtu), mq x.2 → mq (mtl n x).2
  | 0, _, h => h
  | n + 1, x, h => mtl_mq n (mtS x) (mq_tick (mf := x.1) h)
def cpy (f g : Nat → Int32) (i : Nat) : Nat → Int32 := fun j => if j < i then f j else g j
theorem cpy_0 (f g : Nat → Int32) : cpy f g 0 = g := by funext j; unfold cpy; rw [if_neg (by omega)]
theorem cpy_s (f g : Nat → Int32) (i : Nat) : upd (cpy f g i) i (f i) = cpy f g (i + 1) := by
  funext j; unfold upd cpy
  by_cases h : j = i
  · rw [if_pos h, if_pos (by omega), h]
  · rw [if_neg h]
    by_cases h2 : j < i
    · rw [if_pos h2, if_pos (by omega)]
    · rw [if_neg h2, if_neg (by omega)]
/-- the past, a place further on; a state written into its place -/
def psh (g : Nat → Int32) (i : Nat) : Nat → Int32 := fun j => if j < i then g (j + 89) else g j
theorem psh_0 (g : Nat → Int32) : psh g 0 = g := by funext j; unfold psh; rw [if_neg (by omega)]
theorem psh_s (g : Nat → Int32) (i : Nat) : upd (psh g i) i (psh g i (i + 89)) = psh g (i + 1) := by
  funext j; unfold upd psh
  by_cases h : j = i
  · rw [if_pos h, if_neg (by omega), if_pos (by omega), h]
  · rw [if_neg h]
    by_cases h2 : j < i
    · rw [if_pos h2, if_pos (by omega)]
    · rw [if_neg h2, if_neg (by omega)]
def pwr (g : Nat → Int32) (a : Nat) (f : Nat → Int32) (i : Nat) : Nat → Int32 := fun j => if a ≤ j ∧ j < a + i then f (j - a) else g j
theorem pwr_0 (g f : Nat → Int32) (a : Nat) : pwr g a f 0 = g := by funext j; unfold pwr; rw [if_neg (by omega)]
theorem pwr_s (g f : Nat → Int32) (a i : Nat) : upd (pwr g a f i) (a + i) (f i) = pwr g a f (i + 1) := by
  funext j; unfold upd pwr
  by_cases h : j = a + i
  · rw [if_pos h, if_pos (by omega), h, Nat.add_sub_cancel_left]
  · rw [if_neg h]
    by_cases h2 : a ≤ j ∧ j < a + i
    · rw [if_pos h2, if_pos (by omega)]
    · rw [if_neg h2, if_neg (by omega)]
def cq (mf : Nat → Int32) : Prop := ∃ P : Nat, mf 0 = nI P ∧ P ≤ 4
def pOf (mf : Nat → Int32) : Nat := (mf 0).toNatClampNeg
theorem cq_at {mf : Nat → Int32} (h : cq mf) : mf 0 = nI (pOf mf) ∧ pOf mf ≤ 4 := by
  obtain ⟨N, h1, h2⟩ := h
  unfold pOf
  rw [h1, nI_clamp (by omega)]
  exact ⟨rfl, h2⟩
def chF (mf : Nat → Int32) : Nat → Int32 := if mf 1 = 0 then (if mf 0 = 4 then upd (upd mf 0 (mf 0 - 1)) 0 (upd mf 0 (mf 0 - 1) 0 + 1) else upd mf 0 (mf 0 + 1)) else mf
def chP (mf ms mp : Nat → Int32) : Nat → Int32 := if mf 1 = 0 then (if mf 0 = 4 then pwr (psh mp 267) (89 * 3) ms 89 else pwr mp (89 * pOf mf) ms 89) else mp
theorem ch_le {mf : Nat → Int32} (h : cq mf) (h4 : ¬ mf 0 = 4) : pOf mf ≤ 3 := by
  obtain ⟨h1, h2⟩ := cq_at h
  have : pOf mf ≠ 4 := fun e => h4 (by rw [h1, e]; rfl)
  omega
theorem ch_3 {mf : Nat → Int32} (h4 : mf 0 = 4) : upd mf 0 (mf 0 - 1) 0 = nI 3 := by
  show mf 0 - 1 = nI 3
  rw [h4]; rfl
theorem chF_cq {mf : Nat → Int32} (h : cq mf) : cq (chF mf) := by
  unfold chF
  split
  · split
    · rename_i h4
      exact ⟨4, by show mf 0 - 1 + 1 = nI 4; rw [h4]; rfl, by omega⟩
    · rename_i h4
      refine ⟨pOf mf + 1, ?_, by have := ch_le h h4; omega⟩
      show mf 0 + 1 = _
      rw [(cq_at h).1, nI_1]
  · exact h
theorem mx_89 (a i : Nat) : (89 : Int32) * nI a + nI i = nI (89 * a + i) := by
  rw [← nI_add]; exact congrArg (fun z : Int32 => z + nI i) (Int32.ofNat_mul 89 a).symm
def gv8_1_X6_ticks (fi : Nat → Int32) (si : Nat → Int32) : Nat → Int32 := sw0_X6_tick fi si
def gv8_2_X6_ticks (fi : Nat → Int32) (si : Nat → Int32) : Nat → Int32 := sw1_X6_tick fi si
abbrev po_X6_ticks (cI cC cL : ClassId) (m0 m1 m2 m3 m4 m5 m6 : Nat) (mf ms : Nat → Int32) (p1 : Int32) (N : Nat) (hp : p1 = nI N ∧ N < 2 ^ 31) (hq : mq ms) : va_W → Prop := fun w' => [oM m0 m1 m2 m3 m4 m5 m6 ((mtl N (mf, ms)).1), aI cI m1 89 ((mtl N (mf, ms)).2)] = w'
set_option maxHeartbeats 4000000 in
set_option maxRecDepth 100000 in
theorem ct_X6_ticks (l : Launch) (D : va_G) (cI cC cL : ClassId) (m0 m1 m2 m3 m4 m5 m6 : Nat) (mf ms : Nat → Int32) (p1 : Int32) (N : Nat) (hp : p1 = nI N ∧ N < 2 ^ 31) (hq : mq ms) : ag_MV l yX6_ticks cX6_ticks 3 6 127 D cI cC cL [.ref m0, .int p1] [oM m0 m1 m2 m3 m4 m5 m6 mf, aI cI m1 89 ms] (po_X6_ticks cI cC cL m0 m1 m2 m3 m4 m5 m6 mf ms p1 N hp hq) := by
  refine ag_MV.of (plainFor_of_name (by decide)) (Nat.le_of_ble_eq_true rfl) ?_
  intro p e s m below meth c hx hb hr hlocks hml hown hmn hG hK A hN hA H locs hP hD hS ls hl
  have hl : lv_has ls 3 [(0, .ref m0), (1, .int p1)] := hl
  refine lv_iconst (v := 0) hx hb dX6_ticks_0 (by decide) ?_
  refine lv_istore_n (lv' := [(2, .int 0), (0, .ref m0), (1, .int p1)]) hx hb dX6_ticks_1 rfl hl (by decide) rfl (fun ls hl => ?_)
  suffices L2 : ∀ (n : Nat) (i : Nat) (fi si : Nat → Int32), (hi : i + n = N) → (hR : mtl n (fi, si) = mtl N (mf, ms)) → (hqi : mq si) → ∀ (H : Heap) (locs : List Loc) (ls : Array Slot), lv_has ls 3 [(0, .ref m0), (1, .int p1), (2, .int (nI i))] → va_P D vwCl [oM m0 m1 m2 m3 m4 m5 m6 fi, aI cI m1 89 si] H → va_D A [oM m0 m1 m2 m3 m4 m5 m6 fi, aI cI m1 89 si] → va_S A s.heap H locs → W p l e (ag_rm 6 127) s m ([.ref m0, .int p1] : List Value).toArray below meth c H locs 0 0 (MQ below (va_Qv (po_X6_ticks cI cC cL m0 m1 m2 m3 m4 m5 m6 mf ms p1 N hp hq) (ag_Out D [oM m0 m1 m2 m3 m4 m5 m6 mf, aI cI m1 89 ms]) A) ([.ref m0, .int p1] : List Value).toArray s 0 0 A) (F0 m 2 ls []) from L2 N 0 mf ms (by omega) rfl hq H locs ls (lv_sub hl [1, 2, 0] rfl) hP hD hS
  intro n
  induction n with
  | zero =>
    intro i fi si hi hR hqi H locs ls hl hP hD hS
    refine lv_iload_n hx hb dX6_ticks_2 rfl (lv_at hl 2 rfl) ?_
    refine lv_iload_n hx hb dX6_ticks_3 rfl (lv_at hl 1 rfl) ?_
    refine lv_icmp_ge (tgt := 17) hx hb dX6_ticks_4 (by decide) (fun _ => ?_) (fun h0 => absurd (by rw [hp.1]; exact nI_le (by omega) (by omega)) h0)
    exact ag_vret [m0, m1] hx hb hr hlocks hP hS rfl rfl (by show _ = _; rw [← hR]; rfl) dX6_ticks_17
  | succ n ih =>
    intro i fi si hi hR hqi H locs ls hl hP hD hS
    refine lv_iload_n hx hb dX6_ticks_2 rfl (lv_at hl 2 rfl) ?_
    refine lv_iload_n hx hb dX6_ticks_3 rfl (lv_at hl 1 rfl) ?_
    refine lv_icmp_ge (tgt := 17) hx hb dX6_ticks_4 (by decide) (fun h0 => absurd h0 (by rw [hp.1]; exact nI_ge (by omega) hp.2)) (fun _ => ?_)
    refine lv_aload_n hx hb dX6_ticks_7 rfl (lv_at hl 0 rfl) ?_
    refine ag_callVv (As := []) (rest := []) hx hb hml hown hG hK hN hA hP hD hS hl (ct_X6_tick l D cI cC cL m0 m1 m2 m3 m4 m5 m6 fi si hqi) fX6_tick k_640 ag_cut_all (q0 := 0) rfl rfl rfl rfl (Nat.le_of_ble_eq_true rfl) ⟨Nat.le_of_ble_eq_true rfl, Nat.le_of_ble_eq_true rfl⟩ ⟨Nat.zero_le _, Nat.zero_le _⟩ dX6_ticks_8 (fun w1 H locs hw hP hD hS => ?_)
    have hw : _ = w1 := hw
    generalize eg8_1 : sw0_X6_tick fi si = g8_1 at hw
    replace eg8_1 : gv8_1_X6_ticks fi si = g8_1 := (by rw [← eg8_1]; rfl)
    generalize eg8_2 : sw1_X6_tick fi si = g8_2 at hw
    replace eg8_2 : gv8_2_X6_ticks fi si = g8_2 := (by rw [← eg8_2]; rfl)
    subst hw
    have hP : va_P D vwCl [oM m0 m1 m2 m3 m4 m5 m6 g8_1, aI cI m1 89 g8_2] H := hP
    have hD : va_D A [oM m0 m1 m2 m3 m4 m5 m6 g8_1, aI cI m1 89 g8_2] := hD
    refine lv_iinc (v := nI (i + 1)) (lv' := [(2, .int (nI (i + 1))), (0, .ref m0), (1, .int p1)]) hx hb dX6_ticks_11 hl (k := 2) rfl (nI_1 i) (by decide) rfl (fun ls hl => ?_)
    refine lv_goto (tgt := 2) hx hb dX6_ticks_14 (by decide) ?_
    revert hP; revert hD; revert hS; revert hl
    subst eg8_2
    subst eg8_1
    intro hl hS hD hP
    exact ih (i + 1) (gv8_1_X6_ticks fi si) (gv8_2_X6_ticks fi si) (by omega) hR (mq_tick hqi) H locs ls (lv_sub hl [1, 2, 0] rfl) hP hD hS
abbrev po_X6_copies (cI cC cL : ClassId) (a1 a2 : Nat) (fa fb : Nat → Int32) : va_W → Prop := fun w' => [aI cI a1 89 fa, aI cI a2 89 fa] = w'
set_option maxHeartbeats 4000000 in
set_option maxRecDepth 100000 in
theorem ct_X6_copies (l : Launch) (D : va_G) (cI cC cL : ClassId) (a1 a2 : Nat) (fa fb : Nat → Int32) : ag_MV l yX6_copies cX6_copies 3 0 0 D cI cC cL [.ref a1, .ref a2] [aI cI a1 89 fa, aI cI a2 89 fb] (po_X6_copies cI cC cL a1 a2 fa fb) := by
  refine ag_MV.of (plainFor_of_name (by decide)) (Nat.le_of_ble_eq_true rfl) ?_
  intro p e s m below meth c hx hb hr hlocks hml hown hmn hG hK A hN hA H locs hP hD hS ls hl
  have hl : lv_has ls 3 [(0, .ref a1), (1, .ref a2)] := hl
  refine lv_iconst (v := 0) hx hb dX6_copies_0 (by decide) ?_
  refine lv_istore_n (lv' := [(2, .int 0), (0, .ref a1), (1, .ref a2)]) hx hb dX6_copies_1 rfl hl (by decide) rfl (fun ls hl => ?_)
  have hP : va_P D vwCl [aI cI a1 89 fa, aI cI a2 89 (cpy fa fb 0)] H := by rw [cpy_0]; exact hP
  have hD : va_D A [aI cI a1 89 fa, aI cI a2 89 (cpy fa fb 0)] := by rw [cpy_0]; exact hD
  suffices L2 : ∀ (n : Nat) (i : Nat), (hi : i + n = 89) → ∀ (H : Heap) (locs : List Loc) (ls : Array Slot), lv_has ls 3 [(0, .ref a1), (1, .ref a2), (2, .int (nI i))] → va_P D vwCl [aI cI a1 89 fa, aI cI a2 89 (cpy fa fb i)] H → va_D A [aI cI a1 89 fa, aI cI a2 89 (cpy fa fb i)] → va_S A s.heap H locs → W p l e (ag_rm 0 0) s m ([.ref a1, .ref a2] : List Value).toArray below meth c H locs 0 0 (MQ below (va_Qv (po_X6_copies cI cC cL a1 a2 fa fb) (ag_Out D [aI cI a1 89 fa, aI cI a2 89 fb]) A) ([.ref a1, .ref a2] : List Value).toArray s 0 0 A) (F0 m 2 ls []) from L2 89 0 (by omega) H locs ls (lv_sub hl [1, 2, 0] rfl) hP hD hS
  intro n
  induction n with
  | zero =>
    intro i hi H locs ls hl hP hD hS
    refine lv_iload_n hx hb dX6_copies_2 rfl (lv_at hl 2 rfl) ?_
    refine lv_bipush (v := 89) hx hb dX6_copies_3 (by decide) ?_
    refine lv_icmp_ge (tgt := 20) hx hb dX6_copies_5 (by decide) (fun _ => ?_) (fun h0 => absurd ((nI_leI (a := 89) (by decide) (by omega)).mpr (by omega)) h0)
    have hP : va_P D vwCl [aI cI a1 89 fa, aI cI a2 89 fa] H := ag_arr hP 1 fa rfl (fun j hj => by unfold cpy; rw [if_pos (by omega)])
    exact ag_vret [a1, a2] hx hb hr hlocks hP hS rfl rfl rfl dX6_copies_20
  | succ n ih =>
    intro i hi H locs ls hl hP hD hS
    refine lv_iload_n hx hb dX6_copies_2 rfl (lv_at hl 2 rfl) ?_
    refine lv_bipush (v := 89) hx hb dX6_copies_3 (by decide) ?_
    refine lv_icmp_ge (tgt := 20) hx hb dX6_copies_5 (by decide) (fun h0 => absurd h0 (fun h => absurd ((nI_leI (a := 89) (by decide) (by omega)).mp h) (by omega))) (fun _ => ?_)
    refine lv_aload_n hx hb dX6_copies_8 rfl (lv_at hl 1 rfl) ?_
    refine lv_iload_n hx hb dX6_copies_9 rfl (lv_at hl 2 rfl) ?_
    refine lv_aload_n hx hb dX6_copies_10 rfl (lv_at hl 0 rfl) ?_
    refine lv_iload_n hx hb dX6_copies_11 rfl (lv_at hl 2 rfl) ?_
    refine ag_ild (k := i) (v := fa i) hx hb hK hP 0 rfl rfl (by omega) (Nat.le_of_ble_eq_true rfl) rfl dX6_copies_12 ?_
    refine ag_ist (k := i) hx hb hK hP hD hS 1 rfl rfl (by omega) (Nat.le_of_ble_eq_true rfl) dX6_copies_13 (fun H locs hP hD hS => ?_)
    have hP : va_P D vwCl [aI cI a1 89 fa, aI cI a2 89 (upd (cpy fa fb i) i (fa i))] H := hP
    have hD : va_D A [aI cI a1 89 fa, aI cI a2 89 (upd (cpy fa fb i) i (fa i))] := hD
    refine lv_iinc (v := nI (i + 1)) (lv' := [(2, .int (nI (i + 1))), (0, .ref a1), (1, .ref a2)]) hx hb dX6_copies_14 hl (k := 2) rfl (nI_1 i) (by decide) rfl (fun ls hl => ?_)
    refine lv_goto (tgt := 2) hx hb dX6_copies_17 (by decide) ?_
    rw [cpy_s] at hP hD
    exact ih (i + 1) (by omega) H locs ls (lv_sub hl [1, 2, 0] rfl) hP hD hS
abbrev po_X6_changes (cI cC cL : ClassId) (m0 m1 m2 m3 m4 m5 m6 : Nat) (mf ms mp : Nat → Int32) (hc : cq mf) : va_W → Prop := fun w' => [oM m0 m1 m2 m3 m4 m5 m6 (chF mf), aI cI m1 89 ms, aI cI m2 356 (chP mf ms mp)] = w'
set_option maxHeartbeats 4000000 in
set_option maxRecDepth 100000 in
theorem ct_X6_changes (l : Launch) (D : va_G) (cI cC cL : ClassId) (m0 m1 m2 m3 m4 m5 m6 : Nat) (mf ms mp : Nat → Int32) (hc : cq mf) : ag_MV l yX6_changes cX6_changes 2 0 0 D cI cC cL [.ref m0] [oM m0 m1 m2 m3 m4 m5 m6 mf, aI cI m1 89 ms, aI cI m2 356 mp] (po_X6_changes cI cC cL m0 m1 m2 m3 m4 m5 m6 mf ms mp hc) := by
  refine ag_MV.of (plainFor_of_name (by decide)) (Nat.le_of_ble_eq_true rfl) ?_
  intro p e s m below meth c hx hb hr hlocks hml hown hmn hG hK A hN hA H locs hP hD hS ls hl
  have hl : lv_has ls 2 [(0, .ref m0)] := hl
  refine lv_aload_n hx hb dX6_changes_0 rfl (lv_at hl 0 rfl) ?_
  refine ag_getX6 (v := .int (mf 1)) hx hb hG hown hK hP 0 5 rfl (by decide) k_541 rfl dX6_changes_1 ?_
  refine lv_if_eq (tgt := 8) hx hb dX6_changes_4 (by decide) (fun c_4 => ?_) (fun c_4 => ?_)
  · refine lv_aload_n hx hb dX6_changes_8 rfl (lv_at hl 0 rfl) ?_
    refine ag_getX6 (v := .int (mf 0)) hx hb hG hown hK hP 0 4 rfl (by decide) k_540 rfl dX6_changes_9 ?_
    refine lv_iconst (v := 4) hx hb dX6_changes_12 (by decide) ?_
    have J56 : ∀ (gf gp : Nat → Int32) (a : Nat), (hg : gf 0 = nI a) → (ha : a ≤ 3) → (hR : chF mf = upd gf 0 (gf 0 + 1)) → (hT : chP mf ms mp = pwr gp (89 * a) ms 89) → ∀ (H : Heap) (locs : List Loc) (ls : Array Slot), lv_has ls 2 [(0, .ref m0)] → va_P D vwCl [oM m0 m1 m2 m3 m4 m5 m6 gf, aI cI m1 89 ms, aI cI m2 356 gp] H → va_D A [oM m0 m1 m2 m3 m4 m5 m6 gf, aI cI m1 89 ms, aI cI m2 356 gp] → va_S A s.heap H locs → W p l e (ag_rm 0 0) s m ([.ref m0] : List Value).toArray below meth c H locs 0 0 (MQ below (va_Qv (po_X6_changes cI cC cL m0 m1 m2 m3 m4 m5 m6 mf ms mp hc) (ag_Out D [oM m0 m1 m2 m3 m4 m5 m6 mf, aI cI m1 89 ms, aI cI m2 356 mp]) A) ([.ref m0] : List Value).toArray s 0 0 A) (F0 m 56 ls []) := by
      intro gf gp a hg ha hR hT H locs ls hl hP hD hS
      refine lv_iconst (v := 0) hx hb dX6_changes_56 (by decide) ?_
      refine lv_istore_n (lv' := [(1, .int 0), (0, .ref m0)]) hx hb dX6_changes_57 rfl hl (by decide) rfl (fun ls hl => ?_)
      have hP : va_P D vwCl [oM m0 m1 m2 m3 m4 m5 m6 gf, aI cI m1 89 ms, aI cI m2 356 (pwr gp (89 * a) ms 0)] H := by rw [pwr_0]; exact hP
      have hD : va_D A [oM m0 m1 m2 m3 m4 m5 m6 gf, aI cI m1 89 ms, aI cI m2 356 (pwr gp (89 * a) ms 0)] := by rw [pwr_0]; exact hD
      suffices L58 : ∀ (n : Nat) (i : Nat), (hi : i + n = 89) → ∀ (H : Heap) (locs : List Loc) (ls : Array Slot), lv_has ls 2 [(0, .ref m0), (1, .int (nI i))] → va_P D vwCl [oM m0 m1 m2 m3 m4 m5 m6 gf, aI cI m1 89 ms, aI cI m2 356 (pwr gp (89 * a) ms i)] H → va_D A [oM m0 m1 m2 m3 m4 m5 m6 gf, aI cI m1 89 ms, aI cI m2 356 (pwr gp (89 * a) ms i)] → va_S A s.heap H locs → W p l e (ag_rm 0 0) s m ([.ref m0] : List Value).toArray below meth c H locs 0 0 (MQ below (va_Qv (po_X6_changes cI cC cL m0 m1 m2 m3 m4 m5 m6 mf ms mp hc) (ag_Out D [oM m0 m1 m2 m3 m4 m5 m6 mf, aI cI m1 89 ms, aI cI m2 356 mp]) A) ([.ref m0] : List Value).toArray s 0 0 A) (F0 m 58 ls []) from L58 89 0 (by omega) H locs ls (lv_sub hl [1, 0] rfl) hP hD hS
      intro n
      induction n with
      | zero =>
        intro i hi H locs ls hl hP hD hS
        have hi : i = 89 := by omega
        refine lv_iload_n hx hb dX6_changes_58 rfl (lv_at hl 1 rfl) ?_
        refine lv_bipush (v := 89) hx hb dX6_changes_59 (by decide) ?_
        refine lv_icmp_ge (tgt := 90) hx hb dX6_changes_61 (by decide) (fun _ => ?_) (fun h0 => absurd ((nI_leI (a := 89) (by decide) (by omega)).mpr (by omega)) h0)
        refine lv_aload_n hx hb dX6_changes_90 rfl (lv_at hl 0 rfl) ?_
        refine lv_dup hx hb dX6_changes_91 rfl ?_
        refine ag_getX6 (v := .int (gf 0)) hx hb hG hown hK hP 0 4 rfl (by decide) k_540 rfl dX6_changes_92 ?_
        refine lv_iconst (v := 1) hx hb dX6_changes_95 (by decide) ?_
        refine lv_iadd hx hb dX6_changes_96 ?_
        refine ag_putX6 hx hb hG hown hK hP hD hS 0 4 rfl (by decide) k_540 (by decide) rfl rfl (Nat.le_of_ble_eq_true rfl) dX6_changes_97 (fun H locs hP hD hS => ?_)
        have hP : va_P D vwCl [oM m0 m1 m2 m3 m4 m5 m6 (upd gf 0 ((gf 0) + 1)), aI cI m1 89 ms, aI cI m2 356 (pwr gp (89 * a) ms i)] H := hP
        have hD : va_D A [oM m0 m1 m2 m3 m4 m5 m6 (upd gf 0 ((gf 0) + 1)), aI cI m1 89 ms, aI cI m2 356 (pwr gp (89 * a) ms i)] := hD
        exact ag_vret [m0, m1, m2] hx hb hr hlocks hP hS rfl rfl (by show _ = _; rw [hR, hT]; subst hi; rfl) dX6_changes_100
      | succ n ih =>
        intro i hi H locs ls hl hP hD hS
        refine lv_iload_n hx hb dX6_changes_58 rfl (lv_at hl 1 rfl) ?_
        refine lv_bipush (v := 89) hx hb dX6_changes_59 (by decide) ?_
        refine lv_icmp_ge (tgt := 90) hx hb dX6_changes_61 (by decide) (fun h0 => absurd h0 (fun h => absurd ((nI_leI (a := 89) (by decide) (by omega)).mp h) (by omega))) (fun _ => ?_)
        refine lv_aload_n hx hb dX6_changes_64 rfl (lv_at hl 0 rfl) ?_
        refine ag_getX6 (v := .ref m2) hx hb hG hown hK hP 0 1 rfl (by decide) k_537 rfl dX6_changes_65 ?_
        refine lv_bipush (v := 89) hx hb dX6_changes_68 (by decide) ?_
        refine lv_aload_n hx hb dX6_changes_70 rfl (lv_at hl 0 rfl) ?_
        refine ag_getX6 (v := .int (gf 0)) hx hb hG hown hK hP 0 4 rfl (by decide) k_540 rfl dX6_changes_71 ?_
        refine lv_imul hx hb dX6_changes_74 ?_
        refine lv_iload_n hx hb dX6_changes_75 rfl (lv_at hl 1 rfl) ?_
        refine lv_iadd hx hb dX6_changes_76 ?_
        refine lv_aload_n hx hb dX6_changes_77 rfl (lv_at hl 0 rfl) ?_
        refine ag_getX6 (v := .ref m1) hx hb hG hown hK hP 0 0 rfl (by decide) k_536 rfl dX6_changes_78 ?_
        refine lv_iload_n hx hb dX6_changes_81 rfl (lv_at hl 1 rfl) ?_
        refine ag_ild (k := i) (v := ms i) hx hb hK hP 1 rfl rfl (by omega) (Nat.le_of_ble_eq_true rfl) rfl dX6_changes_82 ?_
        refine ag_ist (k := 89 * a + i) hx hb hK hP hD hS 2 rfl (by rw [hg]; exact mx_89 _ _) (by omega) (Nat.le_of_ble_eq_true rfl) dX6_changes_83 (fun H locs hP hD hS => ?_)
        have hP : va_P D vwCl [oM m0 m1 m2 m3 m4 m5 m6 gf, aI cI m1 89 ms, aI cI m2 356 (upd (pwr gp (89 * a) ms i) (89 * a + i) (ms i))] H := hP
        have hD : va_D A [oM m0 m1 m2 m3 m4 m5 m6 gf, aI cI m1 89 ms, aI cI m2 356 (upd (pwr gp (89 * a) ms i) (89 * a + i) (ms i))] := hD
        refine lv_iinc (v := nI (i + 1)) (lv' := [(1, .int (nI (i + 1))), (0, .ref m0)]) hx hb dX6_changes_84 hl (k := 1) rfl (nI_1 i) (by decide) rfl (fun ls hl => ?_)
        refine lv_goto (tgt := 58) hx hb dX6_changes_87 (by decide) ?_
        rw [pwr_s] at hP hD
        exact ih (i + 1) (by omega) H locs ls (lv_sub hl [1, 0] rfl) hP hD hS
    refine lv_icmp_ne (tgt := 56) hx hb dX6_changes_13 (by decide) (fun c_13 => ?_) (fun c_13 => ?_)
    · exact J56 mf mp (pOf mf) (cq_at hc).1 (ch_le hc c_13) (by unfold chF; rw [if_pos c_4, if_neg c_13]) (by unfold chP; rw [if_pos c_4, if_neg c_13]) H locs ls (lv_sub hl [0] rfl) hP hD hS
    · refine lv_iconst (v := 0) hx hb dX6_changes_16 (by decide) ?_
      refine lv_istore_n (lv' := [(1, .int 0), (0, .ref m0)]) hx hb dX6_changes_17 rfl hl (by decide) rfl (fun ls hl => ?_)
      have hP : va_P D vwCl [oM m0 m1 m2 m3 m4 m5 m6 mf, aI cI m1 89 ms, aI cI m2 356 (psh mp 0)] H := by rw [psh_0]; exact hP
      have hD : va_D A [oM m0 m1 m2 m3 m4 m5 m6 mf, aI cI m1 89 ms, aI cI m2 356 (psh mp 0)] := by rw [psh_0]; exact hD
      suffices L18 : ∀ (n : Nat) (k : Nat), (hk : k + n = 267) → ∀ (H : Heap) (locs : List Loc) (ls : Array Slot), lv_has ls 2 [(0, .ref m0), (1, .int (nI k))] → va_P D vwCl [oM m0 m1 m2 m3 m4 m5 m6 mf, aI cI m1 89 ms, aI cI m2 356 (psh mp k)] H → va_D A [oM m0 m1 m2 m3 m4 m5 m6 mf, aI cI m1 89 ms, aI cI m2 356 (psh mp k)] → va_S A s.heap H locs → W p l e (ag_rm 0 0) s m ([.ref m0] : List Value).toArray below meth c H locs 0 0 (MQ below (va_Qv (po_X6_changes cI cC cL m0 m1 m2 m3 m4 m5 m6 mf ms mp hc) (ag_Out D [oM m0 m1 m2 m3 m4 m5 m6 mf, aI cI m1 89 ms, aI cI m2 356 mp]) A) ([.ref m0] : List Value).toArray s 0 0 A) (F0 m 18 ls []) from L18 267 0 (by omega) H locs ls (lv_sub hl [1, 0] rfl) hP hD hS
      intro n
      induction n with
      | zero =>
        intro k hk H locs ls hl hP hD hS
        have hk : k = 267 := by omega
        refine lv_iload_n hx hb dX6_changes_18 rfl (lv_at hl 1 rfl) ?_
        refine lv_sipush (v := 267) hx hb dX6_changes_19 (by decide) ?_
        refine lv_icmp_ge (tgt := 46) hx hb dX6_changes_22 (by decide) (fun _ => ?_) (fun h0 => absurd ((nI_leI (a := 267) (by decide) (by omega)).mpr (by omega)) h0)
        refine lv_aload_n hx hb dX6_changes_46 rfl (lv_at hl 0 rfl) ?_
        refine lv_dup hx hb dX6_changes_47 rfl ?_
        refine ag_getX6 (v := .int (mf 0)) hx hb hG hown hK hP 0 4 rfl (by decide) k_540 rfl dX6_changes_48 ?_
        refine lv_iconst (v := 1) hx hb dX6_changes_51 (by decide) ?_
        refine lv_isub hx hb dX6_changes_52 ?_
        refine ag_putX6 hx hb hG hown hK hP hD hS 0 4 rfl (by decide) k_540 (by decide) rfl rfl (Nat.le_of_ble_eq_true rfl) dX6_changes_53 (fun H locs hP hD hS => ?_)
        have hP : va_P D vwCl [oM m0 m1 m2 m3 m4 m5 m6 (upd mf 0 ((mf 0) - 1)), aI cI m1 89 ms, aI cI m2 356 (psh mp k)] H := hP
        have hD : va_D A [oM m0 m1 m2 m3 m4 m5 m6 (upd mf 0 ((mf 0) - 1)), aI cI m1 89 ms, aI cI m2 356 (psh mp k)] := hD
        subst hk
        exact J56 (upd mf 0 (mf 0 - 1)) (psh mp 267) 3 (ch_3 c_13) (by omega) (by unfold chF; rw [if_pos c_4, if_pos c_13]) (by unfold chP; rw [if_pos c_4, if_pos c_13]) H locs ls (lv_sub hl [0] rfl) hP hD hS
      | succ n ih =>
        intro k hk H locs ls hl hP hD hS
        refine lv_iload_n hx hb dX6_changes_18 rfl (lv_at hl 1 rfl) ?_
        refine lv_sipush (v := 267) hx hb dX6_changes_19 (by decide) ?_
        refine lv_icmp_ge (tgt := 46) hx hb dX6_changes_22 (by decide) (fun h0 => absurd h0 (fun h => absurd ((nI_leI (a := 267) (by decide) (by omega)).mp h) (by omega))) (fun _ => ?_)
        refine lv_aload_n hx hb dX6_changes_25 rfl (lv_at hl 0 rfl) ?_
        refine ag_getX6 (v := .ref m2) hx hb hG hown hK hP 0 1 rfl (by decide) k_537 rfl dX6_changes_26 ?_
        refine lv_iload_n hx hb dX6_changes_29 rfl (lv_at hl 1 rfl) ?_
        refine lv_aload_n hx hb dX6_changes_30 rfl (lv_at hl 0 rfl) ?_
        refine ag_getX6 (v := .ref m2) hx hb hG hown hK hP 0 1 rfl (by decide) k_537 rfl dX6_changes_31 ?_
        refine lv_iload_n hx hb dX6_changes_34 rfl (lv_at hl 1 rfl) ?_
        refine lv_bipush (v := 89) hx hb dX6_changes_35 (by decide) ?_
        refine lv_iadd hx hb dX6_changes_37 ?_
        refine ag_ild (k := k + 89) (v := (psh mp k) (k + 89)) hx hb hK hP 2 rfl (nI_add _ 89) (by omega) (Nat.le_of_ble_eq_true rfl) rfl dX6_changes_38 ?_
        refine ag_ist (k := k) hx hb hK hP hD hS 2 rfl rfl (by omega) (Nat.le_of_ble_eq_true rfl) dX6_changes_39 (fun H locs hP hD hS => ?_)
        have hP : va_P D vwCl [oM m0 m1 m2 m3 m4 m5 m6 mf, aI cI m1 89 ms, aI cI m2 356 (upd (psh mp k) k ((psh mp k) (k + 89)))] H := hP
        have hD : va_D A [oM m0 m1 m2 m3 m4 m5 m6 mf, aI cI m1 89 ms, aI cI m2 356 (upd (psh mp k) k ((psh mp k) (k + 89)))] := hD
        refine lv_iinc (v := nI (k + 1)) (lv' := [(1, .int (nI (k + 1))), (0, .ref m0)]) hx hb dX6_changes_40 hl (k := 1) rfl (nI_1 k) (by decide) rfl (fun ls hl => ?_)
        refine lv_goto (tgt := 18) hx hb dX6_changes_43 (by decide) ?_
        rw [psh_s] at hP hD
        exact ih (k + 1) (by omega) H locs ls (lv_sub hl [1, 0] rfl) hP hD hS
  · exact ag_vret [m0, m1, m2] hx hb hr hlocks hP hS rfl rfl (by show _ = _; unfold chF chP; rw [if_neg c_4, if_neg c_4]) dX6_changes_7
