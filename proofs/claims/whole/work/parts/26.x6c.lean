/-! the model: records -/
theorem mx_rec (i : Nat) : (19 : Int32) + 7 * nI i = nI (19 + 7 * i) := by
  rw [← nI_add]; exact congrArg (fun z : Int32 => 19 + z) (Int32.ofNat_mul 7 i).symm
def rK (ms : Nat → Int32) (d : Int32) : Nat → Nat → Nat
  | 0, i => i
  | n + 1, i => if ms (19 + 7 * i) = d then i else rK ms d n (i + 1)
def rof (ms : Nat → Int32) (d : Int32) (N : Nat) : Int32 := if rK ms d N 0 < N then nI (19 + 7 * rK ms d N 0) else -1000000004
theorem rK_le (ms : Nat → Int32) (d : Int32) : ∀ (n i : Nat), rK ms d n i ≤ i + n
  | 0, i => Nat.le_refl _
  | n + 1, i => by
    unfold rK
    split
    · omega
    · have := rK_le ms d n (i + 1); omega
abbrev po_X6_recordOf (cI cC cL : ClassId) (m0 m1 m2 m3 m4 m5 m6 : Nat) (mf ms : Nat → Int32) (p1 : Int32) (N : Nat) (hq : ms 18 = nI N ∧ N ≤ 10) : Int32 → va_W → Prop := fun r w' => rof ms p1 N = r ∧ [oM m0 m1 m2 m3 m4 m5 m6 mf, aI cI m1 89 ms] = w'
set_option maxHeartbeats 4000000 in
set_option maxRecDepth 100000 in
theorem ct_X6_recordOf (l : Launch) (D : va_G) (cI cC cL : ClassId) (m0 m1 m2 m3 m4 m5 m6 : Nat) (mf ms : Nat → Int32) (p1 : Int32) (N : Nat) (hq : ms 18 = nI N ∧ N ≤ 10) : ag_MI l yX6_recordOf cX6_recordOf 3 .int 0 0 D cI cC cL [.ref m0, .int p1] [oM m0 m1 m2 m3 m4 m5 m6 mf, aI cI m1 89 ms] (po_X6_recordOf cI cC cL m0 m1 m2 m3 m4 m5 m6 mf ms p1 N hq) := by
  refine ag_MI.of (plainFor_of_name (by decide)) (Nat.le_of_ble_eq_true rfl) ?_
  intro p e s m below meth c hx hb hr hlocks hml hown hmn hG hK A hN hA H locs hP hD hS ls hl
  have hl : lv_has ls 3 [(0, .ref m0), (1, .int p1)] := hl
  refine lv_iconst (v := 0) hx hb dX6_recordOf_0 (by decide) ?_
  refine lv_istore_n (lv' := [(2, .int 0), (0, .ref m0), (1, .int p1)]) hx hb dX6_recordOf_1 rfl hl (by decide) rfl (fun ls hl => ?_)
  suffices L2 : ∀ (n : Nat) (i : Nat), (hi : i + n = N) → (hR : rK ms p1 n i = rK ms p1 N 0) → ∀ (H : Heap) (locs : List Loc) (ls : Array Slot), lv_has ls 3 [(0, .ref m0), (1, .int p1), (2, .int (nI i))] → va_P D vwCl [oM m0 m1 m2 m3 m4 m5 m6 mf, aI cI m1 89 ms] H → va_D A [oM m0 m1 m2 m3 m4 m5 m6 mf, aI cI m1 89 ms] → va_S A s.heap H locs → W p l e (ag_rm 0 0) s m ([.ref m0, .int p1] : List Value).toArray below meth c H locs 0 0 (MQ below (va_Qi (po_X6_recordOf cI cC cL m0 m1 m2 m3 m4 m5 m6 mf ms p1 N hq) (ag_Out D [oM m0 m1 m2 m3 m4 m5 m6 mf, aI cI m1 89 ms]) A) ([.ref m0, .int p1] : List Value).toArray s 0 0 A) (F0 m 2 ls []) from L2 N 0 (by omega) rfl H locs ls (lv_sub hl [1, 2, 0] rfl) hP hD hS
  intro n
  induction n with
  | zero =>
    intro i hi hR H locs ls hl hP hD hS
    refine lv_iload_n hx hb dX6_recordOf_2 rfl (lv_at hl 2 rfl) ?_
    refine lv_aload_n hx hb dX6_recordOf_3 rfl (lv_at hl 0 rfl) ?_
    refine ag_getX6 (v := .ref m1) hx hb hG hown hK hP 0 0 rfl (by decide) k_536 rfl dX6_recordOf_4 ?_
    refine lv_bipush (v := 18) hx hb dX6_recordOf_7 (by decide) ?_
    refine ag_ild (k := 18) (v := ms 18) hx hb hK hP 1 rfl rfl (Nat.le_of_ble_eq_true rfl) (Nat.le_of_ble_eq_true rfl) rfl dX6_recordOf_9 ?_
    refine lv_icmp_ge (tgt := 43) hx hb dX6_recordOf_10 (by decide) (fun _ => ?_) (fun h0 => absurd (by rw [hq.1]; exact (nI_leI (by omega) (by omega)).mpr (by omega)) h0)
    refine lv_ldc (v := (-1000000004)) hx hb hown (hG _ k_678) dX6_recordOf_43 ?_
    exact ag_iret [m0, m1] hx hb hr rfl hlocks hP hS rfl rfl ⟨(by unfold rof; rw [← hR]; show (if i < N then _ else _) = _; rw [if_neg (by omega)]), rfl⟩ dX6_recordOf_45
  | succ n ih =>
    intro i hi hR H locs ls hl hP hD hS
    refine lv_iload_n hx hb dX6_recordOf_2 rfl (lv_at hl 2 rfl) ?_
    refine lv_aload_n hx hb dX6_recordOf_3 rfl (lv_at hl 0 rfl) ?_
    refine ag_getX6 (v := .ref m1) hx hb hG hown hK hP 0 0 rfl (by decide) k_536 rfl dX6_recordOf_4 ?_
    refine lv_bipush (v := 18) hx hb dX6_recordOf_7 (by decide) ?_
    refine ag_ild (k := 18) (v := ms 18) hx hb hK hP 1 rfl rfl (Nat.le_of_ble_eq_true rfl) (Nat.le_of_ble_eq_true rfl) rfl dX6_recordOf_9 ?_
    refine lv_icmp_ge (tgt := 43) hx hb dX6_recordOf_10 (by decide) (fun h0 => absurd h0 (by rw [hq.1]; exact (fun h => absurd ((nI_leI (by omega) (by omega)).mp h) (by omega)))) (fun _ => ?_)
    refine lv_aload_n hx hb dX6_recordOf_13 rfl (lv_at hl 0 rfl) ?_
    refine ag_getX6 (v := .ref m1) hx hb hG hown hK hP 0 0 rfl (by decide) k_536 rfl dX6_recordOf_14 ?_
    refine lv_bipush (v := 19) hx hb dX6_recordOf_17 (by decide) ?_
    refine lv_bipush (v := 7) hx hb dX6_recordOf_19 (by decide) ?_
    refine lv_iload_n hx hb dX6_recordOf_21 rfl (lv_at hl 2 rfl) ?_
    refine lv_imul hx hb dX6_recordOf_22 ?_
    refine lv_iadd hx hb dX6_recordOf_23 ?_
    refine ag_ild (k := 19 + 7 * i) (v := ms (19 + 7 * i)) hx hb hK hP 1 rfl (mx_rec i) (by omega) (Nat.le_of_ble_eq_true rfl) rfl dX6_recordOf_24 ?_
    refine lv_iload_n hx hb dX6_recordOf_25 rfl (lv_at hl 1 rfl) ?_
    refine lv_icmp_ne (tgt := 37) hx hb dX6_recordOf_26 (by decide) (fun c_26 => ?_) (fun c_26 => ?_)
    · refine lv_iinc (v := nI (i + 1)) (lv' := [(2, .int (nI (i + 1))), (0, .ref m0), (1, .int p1)]) hx hb dX6_recordOf_37 hl (k := 2) rfl (nI_1 i) (by decide) rfl (fun ls hl => ?_)
      refine lv_goto (tgt := 2) hx hb dX6_recordOf_40 (by decide) ?_
      exact ih (i + 1) (by omega) ((show rK ms p1 (n + 1) i = rK ms p1 n (i + 1) by rw [rK, if_neg c_26]).symm.trans hR) H locs ls (lv_sub hl [1, 2, 0] rfl) hP hD hS
    · refine lv_bipush (v := 19) hx hb dX6_recordOf_29 (by decide) ?_
      refine lv_bipush (v := 7) hx hb dX6_recordOf_31 (by decide) ?_
      refine lv_iload_n hx hb dX6_recordOf_33 rfl (lv_at hl 2 rfl) ?_
      refine lv_imul hx hb dX6_recordOf_34 ?_
      refine lv_iadd hx hb dX6_recordOf_35 ?_
      exact ag_iret [m0, m1] hx hb hr rfl hlocks hP hS rfl rfl ⟨(by unfold rof; rw [← hR, rK, if_pos c_26, if_pos (by omega)]; exact (mx_rec i).symm), rfl⟩ dX6_recordOf_36
