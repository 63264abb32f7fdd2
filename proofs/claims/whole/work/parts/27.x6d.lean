/-! the model: record -/
theorem in_is {v a b : Int32} (h : ¬ sr_X6_in v a b = 0) : ¬ v < a ∧ ¬ b < v := by
  unfold sr_X6_in at h
  constructor
  · intro h1
    rw [if_pos h1] at h
    exact h rfl
  · intro h1
    by_cases h2 : v < a
    · rw [if_pos h2] at h
      exact h rfl
    · rw [if_neg h2, if_pos h1] at h
      exact h rfl
theorem in_nat {v : Int32} {b : Nat} (hb : b < 2 ^ 31) (h : ¬ sr_X6_in v 0 (nI b) = 0) : v = nI v.toNatClampNeg ∧ v.toNatClampNeg ≤ b := by
  obtain ⟨h1, h2⟩ := in_is h
  obtain ⟨j, hj, rfl⟩ := nI_of h1
  rw [nI_clamp hj]
  refine ⟨rfl, Nat.not_lt.mp (fun h3 => h2 ?_)⟩
  exact nI_lt h3 hj
theorem mx_ri {ms : Nat → Int32} {d p2 : Int32} {N : Nat} (hN : N ≤ 10) (h1 : 0 ≤ rof ms d N) (h2 : ¬ sr_X6_in p2 0 5 = 0) : (rof ms d N + 1) + p2 = nI (19 + 7 * rK ms d N 0 + 1 + p2.toNatClampNeg) ∧ 19 + 7 * rK ms d N 0 + 1 + p2.toNatClampNeg < 89 := by
  obtain ⟨e1, e2⟩ := in_nat (b := 5) (by decide) h2
  by_cases hk : rK ms d N 0 < N
  · unfold rof
    rw [if_pos hk, nI_1]
    refine ⟨?_, by omega⟩
    exact (congrArg (fun z => nI (19 + 7 * rK ms d N 0 + 1) + z) e1).trans (nI_add _ _)
  · unfold rof at h1
    rw [if_neg hk] at h1
    exact absurd h1 (by decide)
def sr_X6_record (ms : Nat → Int32) (p1 : Int32) (p2 : Int32) (N : Nat) : Int32 := if p1 < 0 then (-1000000001) else if (sr_X6_in p2 0 5) = 0 then (-1000000001) else if 0 ≤ (rof ms p1 N) then ms (19 + 7 * rK ms p1 N 0 + 1 + p2.toNatClampNeg) else (-1000000004)
abbrev po_X6_record (cI cC cL : ClassId) (m0 m1 m2 m3 m4 m5 m6 : Nat) (mf ms : Nat → Int32) (p1 : Int32) (p2 : Int32) (N : Nat) (hq : ms 18 = nI N ∧ N ≤ 10) : Int32 → va_W → Prop := fun r w' => sr_X6_record ms p1 p2 N = r ∧ [oM m0 m1 m2 m3 m4 m5 m6 mf, aI cI m1 89 ms] = w'
set_option maxHeartbeats 4000000 in
set_option maxRecDepth 100000 in
theorem ct_X6_record (l : Launch) (D : va_G) (cI cC cL : ClassId) (m0 m1 m2 m3 m4 m5 m6 : Nat) (mf ms : Nat → Int32) (p1 : Int32) (p2 : Int32) (N : Nat) (hq : ms 18 = nI N ∧ N ≤ 10) : ag_MI l yX6_record cX6_record 4 .int 1 22 D cI cC cL [.ref m0, .int p1, .int p2] [oM m0 m1 m2 m3 m4 m5 m6 mf, aI cI m1 89 ms] (po_X6_record cI cC cL m0 m1 m2 m3 m4 m5 m6 mf ms p1 p2 N hq) := by
  refine ag_MI.of (plainFor_of_name (by decide)) (Nat.le_of_ble_eq_true rfl) ?_
  intro p e s m below meth c hx hb hr hlocks hml hown hmn hG hK A hN hA H locs hP hD hS ls hl
  have hl : lv_has ls 4 [(0, .ref m0), (1, .int p1), (2, .int p2)] := hl
  refine lv_iload_n hx hb dX6_record_0 rfl (lv_at hl 1 rfl) ?_
  refine lv_if_lt (tgt := 13) hx hb dX6_record_1 (by decide) (fun c_1 => ?_) (fun c_1 => ?_)
  · refine lv_ldc (v := (-1000000001)) hx hb hown (hG _ k_618) dX6_record_13 ?_
    exact ag_iret [m0, m1] hx hb hr rfl hlocks hP hS rfl rfl ⟨(by unfold sr_X6_record; rw [if_pos c_1]), rfl⟩ dX6_record_15
  · refine lv_iload_n hx hb dX6_record_4 rfl (lv_at hl 2 rfl) ?_
    refine lv_iconst (v := 0) hx hb dX6_record_5 (by decide) ?_
    refine lv_iconst (v := 5) hx hb dX6_record_6 (by decide) ?_
    refine ag_callSi (As := [.int p2, .int 0, .int 5]) (rest := []) hx hb hml hown hG hK hN hA hP hD hS hl (ct_X6_in l D cI cC cL p2 0 5) fX6_in k_607 ag_cut_0 rfl (Nat.le_of_ble_eq_true rfl) ⟨Nat.le_of_ble_eq_true rfl, Nat.le_of_ble_eq_true rfl⟩ ⟨Nat.zero_le _, Nat.zero_le _⟩ dX6_record_7 (fun r w1 H locs hw hP hD hS => ?_)
    obtain ⟨rfl, hw⟩ := hw
    subst hw
    have hP : va_P D vwCl [oM m0 m1 m2 m3 m4 m5 m6 mf, aI cI m1 89 ms] H := hP
    have hD : va_D A [oM m0 m1 m2 m3 m4 m5 m6 mf, aI cI m1 89 ms] := hD
    refine lv_if_ne (tgt := 16) hx hb dX6_record_10 (by decide) (fun c_10 => ?_) (fun c_10 => ?_)
    · refine lv_aload_n hx hb dX6_record_16 rfl (lv_at hl 0 rfl) ?_
      refine lv_iload_n hx hb dX6_record_17 rfl (lv_at hl 1 rfl) ?_
      refine ag_callVi (As := [.int p1]) (rest := []) hx hb hml hown hG hK hN hA hP hD hS hl (ct_X6_recordOf l D cI cC cL m0 m1 m2 m3 m4 m5 m6 mf ms p1 N hq) fX6_recordOf k_674 ag_cut_all (q0 := 0) rfl rfl rfl rfl (Nat.le_of_ble_eq_true rfl) ⟨Nat.le_of_ble_eq_true rfl, Nat.le_of_ble_eq_true rfl⟩ ⟨Nat.zero_le _, Nat.zero_le _⟩ dX6_record_18 (fun r w1 H locs hw hP hD hS => ?_)
      obtain ⟨rfl, hw⟩ := hw
      subst hw
      have hP : va_P D vwCl [oM m0 m1 m2 m3 m4 m5 m6 mf, aI cI m1 89 ms] H := hP
      have hD : va_D A [oM m0 m1 m2 m3 m4 m5 m6 mf, aI cI m1 89 ms] := hD
      refine lv_istore_n (lv' := [(3, .int (rof ms p1 N)), (0, .ref m0), (1, .int p1), (2, .int p2)]) hx hb dX6_record_21 rfl hl (by decide) rfl (fun ls hl => ?_)
      refine lv_iload_n hx hb dX6_record_22 rfl (lv_at hl 0 rfl) ?_
      refine lv_if_ge (tgt := 31) hx hb dX6_record_23 (by decide) (fun c_23 => ?_) (fun c_23 => ?_)
      · refine lv_aload_n hx hb dX6_record_31 rfl (lv_at hl 1 rfl) ?_
        refine ag_getX6 (v := .ref m1) hx hb hG hown hK hP 0 0 rfl (by decide) k_536 rfl dX6_record_32 ?_
        refine lv_iload_n hx hb dX6_record_35 rfl (lv_at hl 0 rfl) ?_
        refine lv_iconst (v := 1) hx hb dX6_record_36 (by decide) ?_
        refine lv_iadd hx hb dX6_record_37 ?_
        refine lv_iload_n hx hb dX6_record_38 rfl (lv_at hl 3 rfl) ?_
        refine lv_iadd hx hb dX6_record_39 ?_
        refine ag_ild (k := 19 + 7 * rK ms p1 N 0 + 1 + p2.toNatClampNeg) (v := ms (19 + 7 * rK ms p1 N 0 + 1 + p2.toNatClampNeg)) hx hb hK hP 1 rfl (mx_ri hq.2 c_23 c_10).1 (mx_ri hq.2 c_23 c_10).2 (Nat.le_of_ble_eq_true rfl) rfl dX6_record_40 ?_
        exact ag_iret [m0, m1] hx hb hr rfl hlocks hP hS rfl rfl ⟨(by unfold sr_X6_record; rw [if_neg c_1, if_neg c_10, if_pos c_23]), rfl⟩ dX6_record_41
      · refine lv_ldc (v := (-1000000004)) hx hb hown (hG _ k_678) dX6_record_26 ?_
        refine lv_goto (tgt := 41) hx hb dX6_record_28 (by decide) ?_
        exact ag_iret [m0, m1] hx hb hr rfl hlocks hP hS rfl rfl ⟨(by unfold sr_X6_record; rw [if_neg c_1, if_neg c_10, if_neg c_23]), rfl⟩ dX6_record_41
    · refine lv_ldc (v := (-1000000001)) hx hb hown (hG _ k_618) dX6_record_13 ?_
      exact ag_iret [m0, m1] hx hb hr rfl hlocks hP hS rfl rfl ⟨(by unfold sr_X6_record; rw [if_neg c_1, if_pos c_10]), rfl⟩ dX6_record_15
