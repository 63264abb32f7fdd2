/-! a change of the class and the law's own row of it: alike behind it -/
def PQ (f se to re tf g r d : Nat → Int32) : Prop := (∃ T, T ≤ 9999 ∧ PR T f se to re g r d) ∧ (∀ k, k < 3 → -1000 ≤ (se k).toInt) ∧ tf 0 = 0
theorem ok_of {x : Int32} (h : -1000000000 ≤ x.toInt) : sr_X5_isError x = 0 := by
  unfold sr_X5_isError
  rw [if_pos]
  rw [Int32.lt_iff_toInt_lt]
  have e : (-1000000001 : Int32).toInt = -1000000001 := rfl
  omega
theorem ok_nI {n : Nat} (h : n < 2 ^ 31) : sr_X5_isError (nI n) = 0 := ok_of (by rw [nI_toInt h]; omega)
theorem nn0 {j : Nat} (h : j < 2 ^ 31) : ¬ nI j < 0 := by rw [ag_lt0, nI_toInt h]; omega
theorem nn1 {j : Nat} (h : j < 2 ^ 31) (h1 : 1 ≤ j) : ¬ nI j < 1 := by rw [Int32.lt_iff_toInt_lt, nI_toInt h, show (1 : Int32).toInt = 1 from rfl]; omega
theorem st19 {f og : Nat → Int32} {a : Int32} (h : sr_X5_isError a = 0) : sw19_X5_settle f og a = og := by unfold sw19_X5_settle; rw [if_pos h]
theorem st20 {f og : Nat → Int32} {a : Int32} (h : sr_X5_isError a = 0) : sw20_X5_settle f og a = og := by unfold sw20_X5_settle; rw [if_pos h]
theorem st21 {f og : Nat → Int32} {a : Int32} (h : sr_X5_isError a = 0) : sw21_X5_settle f og a = og := by unfold sw21_X5_settle; rw [if_pos h]
theorem st22 {f og : Nat → Int32} {a : Int32} (h : sr_X5_isError a = 0) : sw22_X5_settle f og a = og := by unfold sw22_X5_settle; rw [if_pos h]
theorem sn19 {f og : Nat → Int32} {a : Int32} (h : ¬ sr_X5_isError a = 0) : sw19_X5_settle f og a = f := by unfold sw19_X5_settle; rw [if_neg h]
theorem sn20 {f og : Nat → Int32} {a : Int32} (h : ¬ sr_X5_isError a = 0) : sw20_X5_settle f og a = f := by unfold sw20_X5_settle; rw [if_neg h]
theorem sn21 {f og : Nat → Int32} {a : Int32} (h : ¬ sr_X5_isError a = 0) : sw21_X5_settle f og a = f := by unfold sw21_X5_settle; rw [if_neg h]
theorem sn22 {f og : Nat → Int32} {a : Int32} (h : ¬ sr_X5_isError a = 0) : sw22_X5_settle f og a = f := by unfold sw22_X5_settle; rw [if_neg h]
theorem PR_upd {T k : Nat} {f se to re g r d : Nat → Int32} {v : Int32} (h : PR T f se to re g r d) (k1 : 3 ≤ k) (k2 : k < 8) (hN : NB T (upd f k v)) : PR T (upd f k v) se to re (upd g k v) r d := by
  obtain ⟨-, h1, h2, h3, h4, h5, h6, h7, h8, h9⟩ := h
  refine ⟨hN, fun j hj => ?_, fun j hj => ?_, fun j hj => ?_, h4, h5, h6, h7, ?_, ?_⟩
  · by_cases c : j = k
    · rw [c, upd_eq, upd_eq]
    · rw [upd_ne c, upd_ne c, h1 j hj]
  · rw [upd_ne (by omega), h2 j hj]
  · rw [upd_ne (by omega), h3 j hj]
  · rw [upd_ne (by omega)]; exact h8
  · rw [upd_ne (by omega)]; exact h9
theorem NB_3 {T : Nat} {f : Nat → Int32} {j : Nat} (h : NB T f) (hj : j ≤ 8) : NB T (upd f 3 (nI j)) := by
  obtain ⟨n0, n1, n2, n3, n4, n5⟩ := h
  refine ⟨?_, ?_, ?_, ?_, ?_, ?_⟩
  · rw [upd_ne (by omega)]; exact n0
  · rw [upd_ne (by omega)]; exact n1
  · rw [upd_ne (by omega)]; exact n2
  · rw [upd_eq]; exact ⟨j, rfl, hj⟩
  · rw [upd_ne (by omega)]; exact n4
  · rw [upd_ne (by omega)]; exact n5
theorem NB_4 {T : Nat} {f : Nat → Int32} {j : Nat} (h : NB T f) (hj : j ≤ 6) : NB T (upd f 4 (nI j)) := by
  obtain ⟨n0, n1, n2, n3, n4, n5⟩ := h
  refine ⟨?_, ?_, ?_, ?_, ?_, ?_⟩
  · rw [upd_ne (by omega)]; exact n0
  · rw [upd_ne (by omega)]; exact n1
  · rw [upd_ne (by omega)]; exact n2
  · rw [upd_ne (by omega)]; exact n3
  · rw [upd_eq]; exact ⟨j, rfl, hj⟩
  · rw [upd_ne (by omega)]; exact n5
theorem NB_5 {T : Nat} {f : Nat → Int32} {v : Int32} (h : NB T f) (hj : v.toInt.natAbs ≤ 500) : NB T (upd f 5 v) := by
  obtain ⟨n0, n1, n2, n3, n4, n5⟩ := h
  refine ⟨?_, ?_, ?_, ?_, ?_, ?_⟩
  · rw [upd_ne (by omega)]; exact n0
  · rw [upd_ne (by omega)]; exact n1
  · rw [upd_ne (by omega)]; exact n2
  · rw [upd_ne (by omega)]; exact n3
  · rw [upd_ne (by omega)]; exact n4
  · rw [upd_eq]; exact hj
theorem NB_k {T k : Nat} {f : Nat → Int32} {v : Int32} (h : NB T f) (hk : 6 ≤ k) : NB T (upd f k v) := by
  obtain ⟨n0, n1, n2, n3, n4, n5⟩ := h
  refine ⟨?_, ?_, ?_, ?_, ?_, ?_⟩
  · rw [upd_ne (by omega)]; exact n0
  · rw [upd_ne (by omega)]; exact n1
  · rw [upd_ne (by omega)]; exact n2
  · rw [upd_ne (by omega)]; exact n3
  · rw [upd_ne (by omega)]; exact n4
  · rw [upd_ne (by omega)]; exact n5
theorem s_gates {f se to re tf g r d : Nat → Int32} {j : Nat} (h : PQ f se to re tf g r d) (hj : j ≤ 8) : sr_X5_gates f (nI j) = g 3 ∧ PQ (sw19_X5_gates f (nI j)) (sw20_X5_gates f se (nI j)) (sw21_X5_gates f to (nI j)) (sw22_X5_gates f re (nI j)) tf (upd g 3 (nI j)) r d := by
  obtain ⟨⟨T, hT, hR⟩, hS, hF⟩ := h
  have c1 : ¬ nI j < 0 := nn0 (by omega)
  have c2 : nI j ≤ 8 := (nI_leI (b := 8) (by omega) (by decide)).mpr hj
  have e1 : sr_X1_openGates f (nI j) = f 3 := by unfold sr_X1_openGates; rw [if_neg c1, if_pos c2]
  have e2 : sw0_X1_openGates f (nI j) = upd f 3 (nI j) := by unfold sw0_X1_openGates; rw [if_neg c1, if_pos c2]
  have ok : sr_X5_isError (f 3) = 0 := by obtain ⟨q, q1, q2⟩ := hR.1.2.2.2.1; rw [q1]; exact ok_nI (by omega)
  refine ⟨?_, ?_⟩
  · unfold sr_X5_gates sr_X5_settle
    rw [e1]
    exact (hR.2.1 3 (by omega)).symm
  · unfold sw19_X5_gates gv20_7_X5_gates sw20_X5_gates gv20_8_X5_gates sw21_X5_gates gv20_9_X5_gates sw22_X5_gates gv20_10_X5_gates gv17_1_X5_gates
    rw [e1, e2, st19 ok, st20 ok, st21 ok, st22 ok]
    exact ⟨⟨T, hT, PR_upd hR (by omega) (by omega) (NB_3 hR.1 hj)⟩, hS, hF⟩
theorem s_turbines {f se to re tf g r d : Nat → Int32} {j : Nat} (h : PQ f se to re tf g r d) (hj : j ≤ 6) : sr_X5_turbines f (nI j) = g 4 ∧ PQ (sw19_X5_turbines f (nI j)) (sw20_X5_turbines f se (nI j)) (sw21_X5_turbines f to (nI j)) (sw22_X5_turbines f re (nI j)) tf (upd g 4 (nI j)) r d := by
  obtain ⟨⟨T, hT, hR⟩, hS, hF⟩ := h
  have c1 : ¬ nI j < 0 := nn0 (by omega)
  have c2 : nI j ≤ 6 := (nI_leI (b := 6) (by omega) (by decide)).mpr hj
  have e1 : sr_X1_openTurbines f (nI j) = f 4 := by unfold sr_X1_openTurbines; rw [if_neg c1, if_pos c2]
  have e2 : sw0_X1_openTurbines f (nI j) = upd f 4 (nI j) := by unfold sw0_X1_openTurbines; rw [if_neg c1, if_pos c2]
  have ok : sr_X5_isError (f 4) = 0 := by obtain ⟨q, q1, q2⟩ := hR.1.2.2.2.2.1; rw [q1]; exact ok_nI (by omega)
  refine ⟨?_, ?_⟩
  · unfold sr_X5_turbines sr_X5_settle
    rw [e1]
    exact (hR.2.1 4 (by omega)).symm
  · unfold sw19_X5_turbines gv20_7_X5_turbines sw20_X5_turbines gv20_8_X5_turbines sw21_X5_turbines gv20_9_X5_turbines sw22_X5_turbines gv20_10_X5_turbines gv17_1_X5_turbines
    rw [e1, e2, st19 ok, st20 ok, st21 ok, st22 ok]
    exact ⟨⟨T, hT, PR_upd hR (by omega) (by omega) (NB_4 hR.1 hj)⟩, hS, hF⟩
theorem s_pump {f se to re tf g r d : Nat → Int32} {j : Nat} (h : PQ f se to re tf g r d) (hj : j < 1001) : sr_X5_pump f (nI j - 500) = g 5 ∧ PQ (sw19_X5_pump f (nI j - 500)) (sw20_X5_pump f se (nI j - 500)) (sw21_X5_pump f to (nI j - 500)) (sw22_X5_pump f re (nI j - 500)) tf (upd g 5 (nI j - 500)) r d := by
  obtain ⟨⟨T, hT, hR⟩, hS, hF⟩ := h
  have t0 : (nI j - 500).toInt = (j : Int) - 500 := i_sub (b := 500) (nI_toInt (by omega)) rfl (by omega) (by omega)
  generalize nI j - 500 = p at t0 ⊢
  have c1 : ¬ p < (-500) := by rw [Int32.lt_iff_toInt_lt, t0, show (-500 : Int32).toInt = -500 from rfl]; omega
  have c2 : p ≤ 500 := by rw [Int32.le_iff_toInt_le, t0, show (500 : Int32).toInt = 500 from rfl]; omega
  have e1 : sr_X1_setPump f p = f 5 := by unfold sr_X1_setPump; rw [if_neg c1, if_pos c2]
  have e2 : sw0_X1_setPump f p = upd f 5 p := by unfold sw0_X1_setPump; rw [if_neg c1, if_pos c2]
  have ok : sr_X5_isError (f 5) = 0 := ok_of (by have := hR.1.2.2.2.2.2; omega)
  refine ⟨?_, ?_⟩
  · unfold sr_X5_pump sr_X5_settle
    rw [e1]
    exact (hR.2.1 5 (by omega)).symm
  · unfold sw19_X5_pump gv20_7_X5_pump sw20_X5_pump gv20_8_X5_pump sw21_X5_pump gv20_9_X5_pump sw22_X5_pump gv20_10_X5_pump gv17_1_X5_pump
    rw [e1, e2, st19 ok, st20 ok, st21 ok, st22 ok]
    exact ⟨⟨T, hT, PR_upd hR (by omega) (by omega) (NB_5 hR.1 (by omega))⟩, hS, hF⟩
theorem s_birds {f se to re tf g r d : Nat → Int32} {a b : Nat} (h : PQ f se to re tf g r d) (ha : a < 144) (hb : b ≤ 144) : sr_X5_birds (nI a) (nI b) = (if nI b ≤ nI a then 0 else nI b - nI a) ∧ PQ (sw19_X5_birds f (nI a) (nI b)) (sw20_X5_birds se (nI a) (nI b)) (sw21_X5_birds to (nI a) (nI b)) (sw22_X5_birds re (nI a) (nI b)) tf (upd (upd g 6 (nI a)) 7 (nI b)) r d := by
  obtain ⟨⟨T, hT, hR⟩, hS, hF⟩ := h
  have c1 : ¬ nI a < 0 := nn0 (by omega)
  have c2 : ¬ 144 ≤ nI a := fun e => by have := (nI_leI (a := 144) (by decide) (by omega)).mp e; omega
  have c3 : ¬ nI b < 0 := nn0 (by omega)
  have c4 : nI b ≤ 144 := (nI_leI (b := 144) (by omega) (by decide)).mpr hb
  have e := pk_sub_toInt (a := b) (b := a) (by omega) (by omega)
  have hm : ag_max 0 (nI b - nI a) = if nI b ≤ nI a then 0 else nI b - nI a := by
    rw [mx0]
    by_cases c : b ≤ a
    · rw [if_pos ((nI_leI (by omega) (by omega)).mpr c), if_pos (by rw [Int32.le_iff_toInt_le, e, show (0 : Int32).toInt = 0 from rfl]; omega)]
    · rw [if_neg (fun h => c ((nI_leI (by omega) (by omega)).mp h)), if_neg (by rw [Int32.le_iff_toInt_le, e, show (0 : Int32).toInt = 0 from rfl]; omega)]
  have e1 : sr_X1_setBirds (nI a) (nI b) = ag_max 0 (nI b - nI a) := by unfold sr_X1_setBirds; rw [if_neg c1, if_neg c2, if_neg c3, if_pos c4]
  have e2 : sw0_X1_setBirds f (nI a) (nI b) = upd (upd f 6 (nI a)) 7 (nI b) := by unfold sw0_X1_setBirds; rw [if_neg c1, if_neg c2, if_neg c3, if_pos c4]
  have ok : sr_X5_isError (ag_max 0 (nI b - nI a)) = 0 := by
    rw [hm]
    split
    · exact ok_nI (n := 0) (by decide)
    · exact ok_of (by rw [e]; omega)
  refine ⟨?_, ?_⟩
  · unfold sr_X5_birds sr_X5_settle
    rw [e1]
    exact hm
  · unfold sw19_X5_birds gv21_7_X5_birds sw20_X5_birds gv21_8_X5_birds sw21_X5_birds gv21_9_X5_birds sw22_X5_birds gv21_10_X5_birds gv18_1_X5_birds
    rw [e1, e2, st19 ok, st20 ok, st21 ok, st22 ok]
    exact ⟨⟨T, hT, PR_upd (PR_upd hR (by omega) (by omega) (NB_k hR.1 (by omega))) (by omega) (by omega) (NB_k (NB_k hR.1 (by omega)) (by omega))⟩, hS, hF⟩
theorem s_dredge_no {f se to re tf g r d : Nat → Int32} {m : Nat} (h : PQ f se to re tf g r d) (h1 : 1 ≤ m) (h2 : m ≤ 20000) (h3 : ¬ nI m ≤ g 2) : sr_X5_dredge f (nI m) = -1000000002 ∧ PQ (sw19_X5_dredge f (nI m)) (sw20_X5_dredge f se (nI m)) (sw21_X5_dredge f to (nI m)) (sw22_X5_dredge f re (nI m)) tf g r d := by
  have hR := h
  obtain ⟨⟨T, hT, hR⟩, hS, hF⟩ := hR
  rw [hR.2.1 2 (by omega)] at h3
  have c1 : ¬ nI m < 1 := nn1 (by omega) h1
  have c2 : nI m ≤ 20000 := (nI_leI (b := 20000) (by omega) (by decide)).mpr h2
  have e1 : sr_X1_dredgeSilt f (nI m) = -1000000002 := by unfold sr_X1_dredgeSilt; rw [if_neg c1, if_pos c2, if_neg h3]
  have ok : ¬ sr_X5_isError (-1000000002) = 0 := by decide
  refine ⟨?_, ?_⟩
  · unfold sr_X5_dredge sr_X5_settle
    rw [e1]
  · unfold sw19_X5_dredge gv20_8_X5_dredge sw20_X5_dredge gv20_9_X5_dredge sw21_X5_dredge gv20_10_X5_dredge sw22_X5_dredge gv20_11_X5_dredge gv17_1_X5_dredge gv17_2_X5_dredge
    rw [e1, sn19 ok, sn20 ok, sn21 ok, sn22 ok]
    exact h
theorem s_dredge {f se to re tf g r d : Nat → Int32} {m : Nat} (h : PQ f se to re tf g r d) (h1 : 1 ≤ m) (h2 : m ≤ 20000) (h3 : nI m ≤ g 2) : sr_X5_dredge f (nI m) = g 2 - nI m ∧ PQ (sw19_X5_dredge f (nI m)) (sw20_X5_dredge f se (nI m)) (sw21_X5_dredge f to (nI m)) (sw22_X5_dredge f re (nI m)) tf (upd (upd g 2 (g 2 - nI m)) 15 (g 15 + nI m)) r d := by
  obtain ⟨⟨T, hT, hR⟩, hS, hF⟩ := h
  have g2 : g 2 = f 2 := hR.2.1 2 (by omega)
  have g15 : g 15 = to 4 := hR.2.2.2.1 4 (by omega)
  rw [g2] at h3 ⊢
  rw [g15]
  have c1 : ¬ nI m < 1 := nn1 (by omega) h1
  have c2 : nI m ≤ 20000 := (nI_leI (b := 20000) (by omega) (by decide)).mpr h2
  have e1 : sr_X1_dredgeSilt f (nI m) = f 2 - nI m := by unfold sr_X1_dredgeSilt xv33_1_X1_dredgeSilt; rw [if_neg c1, if_pos c2, if_pos h3]
  have e2 : sw0_X1_dredgeSilt f (nI m) = upd f 2 (f 2 - nI m) := by unfold sw0_X1_dredgeSilt xv33_1_X1_dredgeSilt; rw [if_neg c1, if_pos c2, if_pos h3]
  have e3 : sw2_X1_dredgeSilt f to (nI m) = upd to 4 (to 4 + nI m) := by unfold sw2_X1_dredgeSilt xv45_2_X1_dredgeSilt; rw [if_neg c1, if_pos c2, if_pos h3]
  obtain ⟨⟨n0, n1, ⟨s, n2, n2b⟩, n3, n4, n5⟩, h1, h2, h3', h4, h5, h6, h7, h8, h9⟩ := hR
  have c4 : m ≤ s := by
    rw [n2] at h3
    exact (nI_leI (by omega) (by omega)).mp h3
  have e5 : f 2 - nI m = nI (s - m) := by rw [n2]; exact pk_sub c4
  have ok : sr_X5_isError (f 2 - nI m) = 0 := by rw [e5]; exact ok_nI (by omega)
  refine ⟨?_, ?_⟩
  · unfold sr_X5_dredge sr_X5_settle
    rw [e1]
  · unfold sw19_X5_dredge gv20_8_X5_dredge sw20_X5_dredge gv20_9_X5_dredge sw21_X5_dredge gv20_10_X5_dredge sw22_X5_dredge gv20_11_X5_dredge gv17_1_X5_dredge gv17_2_X5_dredge
    rw [e1, e2, e3, st19 ok, st20 ok, st21 ok, st22 ok]
    refine ⟨⟨T, hT, ⟨?_, ?_, ?_, ?_, ?_, ?_⟩, fun j hj => ?_, fun j hj => ?_, fun j hj => ?_, h4, h5, h6, h7, ?_, ?_⟩, hS, hF⟩
    · rw [upd_ne (by omega)]; exact n0
    · rw [upd_ne (by omega)]; exact n1
    · rw [upd_eq, e5]; exact ⟨_, rfl, by omega⟩
    · rw [upd_ne (by omega)]; exact n3
    · rw [upd_ne (by omega)]; exact n4
    · rw [upd_ne (by omega)]; exact n5
    · rw [upd_ne (by omega)]
      by_cases c : j = 2
      · rw [c, upd_eq, upd_eq]
      · rw [upd_ne c, upd_ne c, h1 j hj]
    · rw [upd_ne (by omega), upd_ne (by omega), h2 j hj]
    · by_cases c : j = 4
      · rw [c, upd_eq, upd_eq]
      · rw [upd_ne (by omega), upd_ne (by omega), upd_ne c, h3' j hj]
    · rw [upd_ne (by omega), upd_ne (by omega), upd_ne (by omega)]; exact h8
    · rw [upd_eq, upd_ne (by omega), upd_ne (by omega), upd_eq, h9]
      grind
theorem s_set {f se to re tf g r d : Nat → Int32} {k a : Nat} {v : Int32} (h : PQ f se to re tf g r d) (hk : k < 3) (hv : v = nI a) (h1 : (if k = 1 then 0 else 1) ≤ a) (h2 : a ≤ (if k = 2 then 9999 else 400)) : sr_X5_set se (nI k) v = g (8 + k) ∧ PQ (sw19_X5_set f se (nI k) v) (sw20_X5_set se (nI k) v) (sw21_X5_set se to (nI k) v) (sw22_X5_set se re (nI k) v) tf (upd g (8 + k) v) r d := by
  obtain ⟨⟨T, hT, hR⟩, hS, hF⟩ := h
  have ha : a < 2 ^ 30 := by split at h2 <;> omega
  have c1 : ¬ nI k < 0 := nn0 (by omega)
  have c2 : nI k < 3 := nI_lt (b := 3) hk (by decide)
  have e0 : (nI k).toNatClampNeg = k := nI_clamp (by omega)
  have c3 : ¬ v < (if k = 1 then 0 else 1) := by
    rw [hv]
    by_cases c : k = 1
    · rw [if_pos c]; exact nn0 (by omega)
    · rw [if_neg c] at h1 ⊢; exact nn1 (by omega) h1
  have c4 : v ≤ (if k = 2 then 9999 else 400) := by
    rw [hv]
    by_cases c : k = 2
    · rw [if_pos c] at h2 ⊢; exact (nI_leI (b := 9999) (by omega) (by decide)).mpr h2
    · rw [if_neg c] at h2 ⊢; exact (nI_leI (b := 400) (by omega) (by decide)).mpr h2
  have e1 : sr_X1_changeSetting se (nI k) v = se k := by unfold sr_X1_changeSetting; rw [e0, if_neg c1, if_pos c2, if_neg c3, if_pos c4]
  have e2 : sw1_X1_changeSetting se (nI k) v = upd se k v := by unfold sw1_X1_changeSetting; rw [e0, if_neg c1, if_pos c2, if_neg c3, if_pos c4]
  have ok : sr_X5_isError (se k) = 0 := ok_of (by have := hS k hk; omega)
  obtain ⟨hN, g1, g2, g3, h4, h5, h6, h7, h8, h9⟩ := hR
  refine ⟨?_, ?_⟩
  · unfold sr_X5_set sr_X5_settle
    rw [e1]
    exact (g2 k hk).symm
  · unfold sw19_X5_set gv21_7_X5_set sw20_X5_set gv21_8_X5_set sw21_X5_set gv21_9_X5_set sw22_X5_set gv21_10_X5_set gv18_1_X5_set
    rw [e1, e2, st19 ok, st20 ok, st21 ok, st22 ok]
    refine ⟨⟨T, hT, hN, fun j hj => ?_, fun j hj => ?_, fun j hj => ?_, h4, h5, h6, h7, h8, h9⟩, fun j hj => ?_, hF⟩
    · rw [upd_ne (by omega), g1 j hj]
    · by_cases c : j = k
      · rw [c, upd_eq, upd_eq]
      · rw [upd_ne (by omega), upd_ne c, g2 j hj]
    · rw [upd_ne (by omega), g3 j hj]
    · by_cases c : j = k
      · rw [c, upd_eq, hv, nI_toInt (by omega)]; omega
      · rw [upd_ne c]; exact hS j hj
theorem s_run_no {f se to re tf kf g r d : Nat → Int32} {n : Nat} (h : PQ f se to re tf g r d) (h1 : 1 ≤ n) (h2 : n ≤ 300) (h3 : ¬ g 0 + nI n ≤ 9999) : sr_X5_run f se to re kf (nI n) = -1000000003 ∧ PQ (sw19_X5_run f se to re kf (nI n)) (sw20_X5_run f se to re kf (nI n)) (sw21_X5_run f se to re kf (nI n)) (sw22_X5_run f se to re kf (nI n)) tf g r d := by
  have hR := h
  obtain ⟨⟨T, hT, hR⟩, hS, hF⟩ := hR
  rw [hR.2.1 0 (by omega)] at h3
  have c1 : ¬ nI n < 1 := nn1 (by omega) h1
  have c2 : nI n ≤ 300 := (nI_leI (b := 300) (by omega) (by decide)).mpr h2
  have e1 : sr_X1_runTicks f se to re kf (nI n) = -1000000003 := by unfold sr_X1_runTicks; rw [if_neg c1, if_pos c2, if_neg h3]
  have ok : ¬ sr_X5_isError (-1000000003) = 0 := by decide
  refine ⟨?_, ?_⟩
  · unfold sr_X5_run sr_X5_settle
    rw [e1]
  · unfold sw19_X5_run gv24_10_X5_run sw20_X5_run gv24_11_X5_run sw21_X5_run gv24_12_X5_run sw22_X5_run gv24_13_X5_run gv21_1_X5_run gv21_2_X5_run gv21_3_X5_run
    rw [e1, sn19 ok, sn20 ok, sn21 ok, sn22 ok]
    exact h
theorem s_run {T : Nat} {f se to re tf kf g r d gi ri di : Nat → Int32} {n : Nat} (hS : ∀ k, k < 3 → -1000 ≤ (se k).toInt) (hF : tf 0 = 0) (hR : PR T f se to re g r d) (hT : T ≤ 9999) (h1 : 1 ≤ n) (h2 : n ≤ 300) (h3 : g 0 + nI n ≤ 9999) (hX : PX (T + n) se (lp se n (f, to, re, kf)) gi ri di) :
    sr_X5_run f se to re kf (nI n) = sr_L_level gi ∧ PQ (sw19_X5_run f se to re kf (nI n)) (sw20_X5_run f se to re kf (nI n)) (sw21_X5_run f se to re kf (nI n)) (sw22_X5_run f se to re kf (nI n)) tf gi ri di := by
  rw [hR.2.1 0 (by omega)] at h3
  have c1 : ¬ nI n < 1 := nn1 (by omega) h1
  have c2 : nI n ≤ 300 := (nI_leI (b := 300) (by omega) (by decide)).mpr h2
  have e0 : (nI n).toNatClampNeg = n := nI_clamp (by omega)
  have e1 : sr_X1_runTicks f se to re kf (nI n) = sr_X1_level (lp se n (f, to, re, kf)).1 := by unfold sr_X1_runTicks gv33_1_X1_runTicks; rw [if_neg c1, if_pos c2, if_pos h3, e0]
  have e2 : sw0_X1_runTicks f se to re kf (nI n) = (lp se n (f, to, re, kf)).1 := by unfold sw0_X1_runTicks gv33_1_X1_runTicks; rw [if_neg c1, if_pos c2, if_pos h3, e0]
  have e3 : sw2_X1_runTicks f se to re kf (nI n) = (lp se n (f, to, re, kf)).2.1 := by unfold sw2_X1_runTicks gv33_2_X1_runTicks; rw [if_neg c1, if_pos c2, if_pos h3, e0]
  have e4 : sw3_X1_runTicks f se to re kf (nI n) = (lp se n (f, to, re, kf)).2.2.1 := by unfold sw3_X1_runTicks gv33_3_X1_runTicks; rw [if_neg c1, if_pos c2, if_pos h3, e0]
  have hX2 : PR (T + n) (lp se n (f, to, re, kf)).1 se (lp se n (f, to, re, kf)).2.1 (lp se n (f, to, re, kf)).2.2.1 gi ri di := hX
  have hT2 : T + n ≤ 9999 := by
    rw [hR.1.1, nI_add] at h3
    exact (nI_leI (b := 9999) (by omega) (by decide)).mp h3
  have ok : sr_X5_isError (sr_X1_level (lp se n (f, to, re, kf)).1) = 0 := ok_of (by have := level_b hX2.1; omega)
  refine ⟨?_, ?_⟩
  · unfold sr_X5_run sr_X5_settle
    rw [e1]
    exact (lev_L (hX2.2.1 1 (by omega)) (hX2.2.1 2 (by omega))).symm
  · unfold sw19_X5_run gv24_10_X5_run sw20_X5_run gv24_11_X5_run sw21_X5_run gv24_12_X5_run sw22_X5_run gv24_13_X5_run gv21_1_X5_run gv21_2_X5_run gv21_3_X5_run
    rw [e1, e2, e3, e4, st19 ok, st20 ok, st21 ok, st22 ok]
    exact ⟨⟨T + n, hT2, hX2⟩, hS, hF⟩
