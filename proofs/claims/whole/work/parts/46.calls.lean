/-! changes: the class and the model alike -/
def okA (x : Int32) : Prop := sr_X5_isError x = 0
theorem ok_of {x : Int32} (h : -1000000000 ≤ x.toInt) : sr_X5_isError x = 0 := by
  unfold sr_X5_isError
  rw [if_pos]
  rw [Int32.lt_iff_toInt_lt]
  have e : (-1000000001 : Int32).toInt = -1000000001 := rfl
  omega
theorem ok_nI {n : Nat} (h : n < 2 ^ 31) : sr_X5_isError (nI n) = 0 := ok_of (by rw [nI_toInt h]; omega)
theorem in_no {v a b : Int32} (h : v < a ∨ b < v) : sr_X6_in v a b = 0 := by
  unfold sr_X6_in
  by_cases c : v < a
  · rw [if_pos c]
  · rw [if_neg c, if_pos (h.resolve_left c)]
theorem in_yes {v a b : Int32} (h1 : ¬ v < a) (h2 : v ≤ b) : ¬ sr_X6_in v a b = 0 := by
  unfold sr_X6_in
  rw [if_neg h1, if_neg (Int32.not_lt.mpr h2)]
  decide
theorem LR_upd {T k : Nat} {f se to re ms : Nat → Int32} {v : Int32} (h : LR T f se to re ms) (k1 : 3 ≤ k) (k2 : k < 8) (hN : NB T (upd f k v)) : LR T (upd f k v) se to re (upd ms k v) := by
  obtain ⟨-, h1, h2, h3, h4, h5, h6⟩ := h
  refine ⟨hN, fun j hj => ?_, fun j hj => ?_, fun j hj => ?_, ⟨?_, fun j hj => ?_, fun j hj i hi => ?_⟩, h5, h6⟩
  · by_cases c : j = k
    · rw [c, upd_eq, upd_eq]
    · rw [upd_ne c, upd_ne c, h1 j hj]
  · rw [upd_ne (by omega), h2 j hj]
  · rw [upd_ne (by omega), h3 j hj]
  · rw [upd_ne (by omega), h4.1]
  · rw [upd_ne (by omega), h4.2.1 j hj]
  · rw [upd_ne (by omega), h4.2.2 j hj i hi]
theorem gates_rel {T : Nat} {f se to re ms : Nat → Int32} {p : Int32} (h : LR T f se to re ms) : sr_X1_openGates f p = sr_X6_gates ms p ∧ LR T (sw0_X1_openGates f p) se to re (sw1_X6_gates ms p) ∧ ((¬ sr_X6_in p 0 8 = 0 ∧ sr_X5_isError (sr_X1_openGates f p) = 0) ∨ (sr_X6_in p 0 8 = 0 ∧ sr_X1_openGates f p = -1000000001)) := by
  unfold sr_X1_openGates sr_X6_gates sw0_X1_openGates sw1_X6_gates gv13_2_X6_gates sr_X6_sets sw1_X6_sets
  by_cases c1 : p < 0
  · have i := in_no (v := p) (a := 0) (b := 8) (Or.inl c1)
    rw [if_pos c1, if_pos c1, if_pos i, if_pos i]
    exact ⟨rfl, h, Or.inr ⟨i, rfl⟩⟩
  · rw [if_neg c1, if_neg c1]
    by_cases c2 : p ≤ 8
    · have i := in_yes c1 c2
      rw [if_pos c2, if_pos c2, if_neg i, if_neg i]
      obtain ⟨⟨n0, n1, n2, ⟨g, n3, n3b⟩, n4, n5⟩, r⟩ := id h
      obtain ⟨j, j1, j2⟩ := nI_of2 (n := 8) rfl c1 c2
      refine ⟨(r.1 3 (by omega)).symm, LR_upd h (by omega) (by omega) ⟨?_, ?_, ?_, ?_, ?_, ?_⟩, Or.inl ⟨i, by rw [n3]; exact ok_nI (by omega)⟩⟩
      · rw [upd_ne (by omega)]; exact n0
      · rw [upd_ne (by omega)]; exact n1
      · rw [upd_ne (by omega)]; exact n2
      · rw [upd_eq]; exact ⟨j, j2, j1⟩
      · rw [upd_ne (by omega)]; exact n4
      · rw [upd_ne (by omega)]; exact n5
    · have i := in_no (v := p) (a := 0) (b := 8) (Or.inr (Int32.not_le.mp c2))
      rw [if_neg c2, if_neg c2, if_pos i, if_pos i]
      exact ⟨rfl, h, Or.inr ⟨i, rfl⟩⟩
theorem turbines_rel {T : Nat} {f se to re ms : Nat → Int32} {p : Int32} (h : LR T f se to re ms) : sr_X1_openTurbines f p = sr_X6_turbines ms p ∧ LR T (sw0_X1_openTurbines f p) se to re (sw1_X6_turbines ms p) ∧ ((¬ sr_X6_in p 0 6 = 0 ∧ sr_X5_isError (sr_X1_openTurbines f p) = 0) ∨ (sr_X6_in p 0 6 = 0 ∧ sr_X1_openTurbines f p = -1000000001)) := by
  unfold sr_X1_openTurbines sr_X6_turbines sw0_X1_openTurbines sw1_X6_turbines gv13_2_X6_turbines sr_X6_sets sw1_X6_sets
  by_cases c1 : p < 0
  · have i := in_no (v := p) (a := 0) (b := 6) (Or.inl c1)
    rw [if_pos c1, if_pos c1, if_pos i, if_pos i]
    exact ⟨rfl, h, Or.inr ⟨i, rfl⟩⟩
  · rw [if_neg c1, if_neg c1]
    by_cases c2 : p ≤ 6
    · have i := in_yes c1 c2
      rw [if_pos c2, if_pos c2, if_neg i, if_neg i]
      obtain ⟨⟨n0, n1, n2, n3, ⟨g, n4, n4b⟩, n5⟩, r⟩ := id h
      obtain ⟨j, j1, j2⟩ := nI_of2 (n := 6) rfl c1 c2
      refine ⟨(r.1 4 (by omega)).symm, LR_upd h (by omega) (by omega) ⟨?_, ?_, ?_, ?_, ?_, ?_⟩, Or.inl ⟨i, by rw [n4]; exact ok_nI (by omega)⟩⟩
      · rw [upd_ne (by omega)]; exact n0
      · rw [upd_ne (by omega)]; exact n1
      · rw [upd_ne (by omega)]; exact n2
      · rw [upd_ne (by omega)]; exact n3
      · rw [upd_eq]; exact ⟨j, j2, j1⟩
      · rw [upd_ne (by omega)]; exact n5
    · have i := in_no (v := p) (a := 0) (b := 6) (Or.inr (Int32.not_le.mp c2))
      rw [if_neg c2, if_neg c2, if_pos i, if_pos i]
      exact ⟨rfl, h, Or.inr ⟨i, rfl⟩⟩
theorem pump_rel {T : Nat} {f se to re ms : Nat → Int32} {p : Int32} (h : LR T f se to re ms) : sr_X1_setPump f p = sr_X6_pump ms p ∧ LR T (sw0_X1_setPump f p) se to re (sw1_X6_pump ms p) ∧ ((¬ sr_X6_in p (-500) 500 = 0 ∧ sr_X5_isError (sr_X1_setPump f p) = 0) ∨ (sr_X6_in p (-500) 500 = 0 ∧ sr_X1_setPump f p = -1000000001)) := by
  unfold sr_X1_setPump sr_X6_pump sw0_X1_setPump sw1_X6_pump gv16_2_X6_pump sr_X6_sets sw1_X6_sets
  by_cases c1 : p < (-500)
  · have i := in_no (v := p) (a := (-500)) (b := 500) (Or.inl c1)
    rw [if_pos c1, if_pos c1, if_pos i, if_pos i]
    exact ⟨rfl, h, Or.inr ⟨i, rfl⟩⟩
  · rw [if_neg c1, if_neg c1]
    by_cases c2 : p ≤ 500
    · have i := in_yes c1 c2
      rw [if_pos c2, if_pos c2, if_neg i, if_neg i]
      obtain ⟨⟨n0, n1, n2, n3, n4, n5⟩, r⟩ := id h
      refine ⟨(r.1 5 (by omega)).symm, LR_upd h (by omega) (by omega) ⟨?_, ?_, ?_, ?_, ?_, ?_⟩, Or.inl ⟨i, ok_of (by omega)⟩⟩
      · rw [upd_ne (by omega)]; exact n0
      · rw [upd_ne (by omega)]; exact n1
      · rw [upd_ne (by omega)]; exact n2
      · rw [upd_ne (by omega)]; exact n3
      · rw [upd_ne (by omega)]; exact n4
      · rw [upd_eq]
        rw [Int32.lt_iff_toInt_lt, show (-500 : Int32).toInt = -500 from rfl] at c1
        rw [Int32.le_iff_toInt_le, show (500 : Int32).toInt = 500 from rfl] at c2
        omega
    · have i := in_no (v := p) (a := (-500)) (b := 500) (Or.inr (Int32.not_le.mp c2))
      rw [if_neg c2, if_neg c2, if_pos i, if_pos i]
      exact ⟨rfl, h, Or.inr ⟨i, rfl⟩⟩
theorem NB_k {T k : Nat} {f : Nat → Int32} {v : Int32} (h : NB T f) (hk : 6 ≤ k) : NB T (upd f k v) := by
  obtain ⟨n0, n1, n2, n3, n4, n5⟩ := h
  refine ⟨?_, ?_, ?_, ?_, ?_, ?_⟩
  · rw [upd_ne (by omega)]; exact n0
  · rw [upd_ne (by omega)]; exact n1
  · rw [upd_ne (by omega)]; exact n2
  · rw [upd_ne (by omega)]; exact n3
  · rw [upd_ne (by omega)]; exact n4
  · rw [upd_ne (by omega)]; exact n5
theorem birds_rel {T : Nat} {f se to re ms : Nat → Int32} {p q : Int32} (h : LR T f se to re ms) : sr_X1_setBirds p q = sr_X6_birds p q ∧ LR T (sw0_X1_setBirds f p q) se to re (sw1_X6_birds ms p q) ∧ ((¬ sr_X6_in p 0 143 = 0 ∧ ¬ sr_X6_in q 0 144 = 0 ∧ sr_X5_isError (sr_X1_setBirds p q) = 0) ∨ ((sr_X6_in p 0 143 = 0 ∨ sr_X6_in q 0 144 = 0) ∧ sr_X1_setBirds p q = -1000000001)) := by
  unfold sr_X1_setBirds sr_X6_birds sw0_X1_setBirds sw1_X6_birds
  by_cases c1 : p < 0
  · have i := in_no (v := p) (a := 0) (b := 143) (Or.inl c1)
    rw [if_pos c1, if_pos c1, if_pos i, if_pos i]
    exact ⟨rfl, h, Or.inr ⟨Or.inl i, rfl⟩⟩
  · rw [if_neg c1, if_neg c1]
    by_cases c2 : 144 ≤ p
    · have i := in_no (v := p) (a := 0) (b := 143) (Or.inr (by rw [Int32.le_iff_toInt_le, show (144 : Int32).toInt = 144 from rfl] at c2; rw [Int32.lt_iff_toInt_lt, show (143 : Int32).toInt = 143 from rfl]; omega))
      rw [if_pos c2, if_pos c2, if_pos i, if_pos i]
      exact ⟨rfl, h, Or.inr ⟨Or.inl i, rfl⟩⟩
    · have b1 : p ≤ 143 := by rw [Int32.le_iff_toInt_le, show (144 : Int32).toInt = 144 from rfl] at c2; rw [Int32.le_iff_toInt_le, show (143 : Int32).toInt = 143 from rfl]; omega
      have i := in_yes c1 b1
      rw [if_neg c2, if_neg c2, if_neg i, if_neg i]
      by_cases c3 : q < 0
      · have i2 := in_no (v := q) (a := 0) (b := 144) (Or.inl c3)
        rw [if_pos c3, if_pos c3, if_pos i2, if_pos i2]
        exact ⟨rfl, h, Or.inr ⟨Or.inr i2, rfl⟩⟩
      · rw [if_neg c3, if_neg c3]
        by_cases c4 : q ≤ 144
        · have i2 := in_yes c3 c4
          rw [if_pos c4, if_pos c4, if_neg i2, if_neg i2]
          obtain ⟨j, j1, j2⟩ := nI_of2 (n := 143) rfl c1 b1
          obtain ⟨k, k1, k2⟩ := nI_of2 (n := 144) rfl c3 c4
          have e := pk_sub_toInt (a := k) (b := j) (by omega) (by omega)
          have hm : ag_max 0 (q - p) = if q ≤ p then 0 else q - p := by
            rw [mx0, j2, k2]
            by_cases c : k ≤ j
            · rw [if_pos ((nI_leI (by omega) (by omega)).mpr c), if_pos (by rw [Int32.le_iff_toInt_le, e, show (0 : Int32).toInt = 0 from rfl]; omega)]
            · rw [if_neg (fun h => c ((nI_leI (by omega) (by omega)).mp h)), if_neg (by rw [Int32.le_iff_toInt_le, e, show (0 : Int32).toInt = 0 from rfl]; omega)]
          refine ⟨hm, LR_upd (LR_upd h (by omega) (by omega) (NB_k h.1 (by omega))) (by omega) (by omega) (NB_k (NB_k h.1 (by omega)) (by omega)), Or.inl ⟨i, i2, ?_⟩⟩
          rw [hm]
          split
          · exact ok_nI (n := 0) (by decide)
          · rw [j2, k2]
            exact ok_of (by rw [e]; omega)
        · have i2 := in_no (v := q) (a := 0) (b := 144) (Or.inr (Int32.not_le.mp c4))
          rw [if_neg c4, if_neg c4, if_pos i2, if_pos i2]
          exact ⟨rfl, h, Or.inr ⟨Or.inr i2, rfl⟩⟩
theorem LR_level {T : Nat} {f se to re ms : Nat → Int32} (h : LR T f se to re ms) : sr_X1_level f = sr_X6_level ms := (lev_rel (h.2.1 1 (by omega)) (h.2.1 2 (by omega))).symm
theorem LR_lok {T : Nat} {f se to re ms : Nat → Int32} (h : LR T f se to re ms) : sr_X5_isError (sr_X1_level f) = 0 := ok_of (by have := level_b h.1; omega)
theorem time_le {T N : Nat} {a b : Int32} (ha : a = nI T) (hb : b = nI N) (hT : T < 2 ^ 30) (hN : N < 2 ^ 30) : (a + b ≤ 9999 ↔ T + N ≤ 9999) := by
  rw [ha, hb, nI_add]
  exact nI_leI (b := 9999) (by omega) (by decide)
theorem run_rel {T : Nat} {f se to re kf mf ms : Nat → Int32} {p : Int32} (hT : T ≤ 9999) (h : LR T f se to re ms) : sr_X1_runTicks f se to re kf p = sr_X6_run mf ms p ∧ (∃ U : Nat, U ≤ 9999 ∧ LR U (sw0_X1_runTicks f se to re kf p) se (sw2_X1_runTicks f se to re kf p) (sw3_X1_runTicks f se to re kf p) (sw1_X6_run mf ms p)) ∧
    ((¬ sr_X6_in p 1 300 = 0 ∧ ms 0 + p ≤ 9999 ∧ sr_X5_isError (sr_X1_runTicks f se to re kf p) = 0) ∨ (sr_X6_in p 1 300 = 0 ∧ sr_X1_runTicks f se to re kf p = -1000000001) ∨ (¬ ms 0 + p ≤ 9999 ∧ sr_X1_runTicks f se to re kf p = -1000000003)) := by
  unfold sr_X1_runTicks sr_X6_run sw0_X1_runTicks sw2_X1_runTicks sw3_X1_runTicks sw1_X6_run gv37_4_X6_run gv33_1_X1_runTicks gv33_2_X1_runTicks gv33_3_X1_runTicks
  by_cases c1 : p < 1
  · have i := in_no (v := p) (a := 1) (b := 300) (Or.inl c1)
    rw [if_pos c1, if_pos c1, if_pos c1, if_pos c1, if_pos i, if_pos i]
    exact ⟨rfl, ⟨T, hT, h⟩, Or.inr (Or.inl ⟨i, rfl⟩)⟩
  · rw [if_neg c1, if_neg c1, if_neg c1, if_neg c1]
    by_cases c2 : p ≤ 300
    · have i := in_yes c1 c2
      rw [if_pos c2, if_pos c2, if_pos c2, if_pos c2, if_neg i, if_neg i, h.2.1 0 (by omega)]
      obtain ⟨j1, j2⟩ := ag_pos c1
      have j3 : p.toNatClampNeg ≤ 300 := by
        rw [j1] at c2
        exact (nI_leI (b := 300) j2 (by decide)).mp c2
      have tl := time_le h.1.1 j1 (by omega) (by omega)
      by_cases c3 : f 0 + p ≤ 9999
      · rw [if_pos c3, if_pos c3, if_pos c3, if_pos c3, if_pos c3, if_pos c3]
        have k := lp_rel (se := se) p.toNatClampNeg T (f, to, re, kf) (gv32_1_X6_run mf, ms) (by omega) h
        exact ⟨LR_level k, ⟨_, tl.mp c3, k⟩, Or.inl ⟨i, c3, LR_lok k⟩⟩
      · rw [if_neg c3, if_neg c3, if_neg c3, if_neg c3, if_neg c3, if_neg c3]
        exact ⟨rfl, ⟨T, hT, h⟩, Or.inr (Or.inr ⟨c3, rfl⟩)⟩
    · have i := in_no (v := p) (a := 1) (b := 300) (Or.inr (Int32.not_le.mp c2))
      rw [if_neg c2, if_neg c2, if_neg c2, if_neg c2, if_pos i, if_pos i]
      exact ⟨rfl, ⟨T, hT, h⟩, Or.inr (Or.inl ⟨i, rfl⟩)⟩
theorem dredge_rel {T : Nat} {f se to re ms : Nat → Int32} {p : Int32} (h : LR T f se to re ms) : sr_X1_dredgeSilt f p = sr_X6_dredge ms p ∧ LR T (sw0_X1_dredgeSilt f p) se (sw2_X1_dredgeSilt f to p) re (sw1_X6_dredge ms p) ∧
    ((¬ sr_X6_in p 1 20000 = 0 ∧ p ≤ ms 2 ∧ sr_X5_isError (sr_X1_dredgeSilt f p) = 0) ∨ (sr_X6_in p 1 20000 = 0 ∧ sr_X1_dredgeSilt f p = -1000000001) ∨ (¬ p ≤ ms 2 ∧ sr_X1_dredgeSilt f p = -1000000002)) := by
  unfold sr_X1_dredgeSilt sr_X6_dredge sw0_X1_dredgeSilt sw2_X1_dredgeSilt sw1_X6_dredge xv33_1_X1_dredgeSilt xv45_2_X1_dredgeSilt xv51_4_X6_dredge xv40_3_X6_dredge
  by_cases c1 : p < 1
  · have i := in_no (v := p) (a := 1) (b := 20000) (Or.inl c1)
    rw [if_pos c1, if_pos c1, if_pos c1, if_pos i, if_pos i]
    exact ⟨rfl, h, Or.inr (Or.inl ⟨i, rfl⟩)⟩
  · rw [if_neg c1, if_neg c1, if_neg c1]
    by_cases c2 : p ≤ 20000
    · have i := in_yes c1 c2
      have e2 : ms 2 = f 2 := h.2.1 2 (by omega)
      have e4 : ms 15 = to 4 := h.2.2.2.1 4 (by omega)
      rw [if_pos c2, if_pos c2, if_pos c2, if_neg i, if_neg i, e2, e4]
      obtain ⟨j1, j2⟩ := ag_pos c1
      by_cases c3 : p ≤ f 2
      · rw [if_pos c3, if_pos c3, if_pos c3, if_pos c3]
        obtain ⟨⟨n0, n1, ⟨s, n2, n2b⟩, n3, n4, n5⟩, h1, h2, h3, h4, h5, h6⟩ := id h
        have c4 : p.toNatClampNeg ≤ s := by
          rw [n2, j1] at c3
          exact (nI_leI j2 (by omega)).mp c3
        have e5 : f 2 - p = nI (s - p.toNatClampNeg) := by rw [n2]; exact (congrArg (fun z => nI s - z) j1).trans (pk_sub c4)
        refine ⟨rfl, ⟨⟨?_, ?_, ?_, ?_, ?_, ?_⟩, fun j hj => ?_, fun j hj => ?_, fun j hj => ?_, ⟨?_, fun j hj => ?_, fun j hj i hi => ?_⟩, ?_, ?_⟩, Or.inl ⟨i, c3, by rw [e5]; exact ok_nI (by omega)⟩⟩
        · rw [upd_ne (by omega)]; exact n0
        · rw [upd_ne (by omega)]; exact n1
        · rw [upd_eq, e5]; exact ⟨_, rfl, by omega⟩
        · rw [upd_ne (by omega)]; exact n3
        · rw [upd_ne (by omega)]; exact n4
        · rw [upd_ne (by omega)]; exact n5
        · rw [upd_ne (by omega)]
          by_cases c : j = 2
          · rw [c, upd_eq, upd_eq]
          · rw [upd_ne c, upd_ne c, h1 j hj]
        · rw [upd_ne (by omega), upd_ne (by omega), h2 j hj]
        · by_cases c : j = 4
          · rw [c, upd_eq, upd_eq]
          · rw [upd_ne (by omega), upd_ne (by omega), upd_ne c, h3 j hj]
        · rw [upd_ne (by omega), upd_ne (by omega), h4.1]
        · rw [upd_ne (by omega), upd_ne (by omega), h4.2.1 j hj]
        · rw [upd_ne (by omega), upd_ne (by omega), h4.2.2 j hj i hi]
        · rw [upd_ne (by omega)]; exact h5
        · exact ⟨by rw [upd_ne (by omega)]; exact h6.1, h6.2⟩
      · rw [if_neg c3, if_neg c3, if_neg c3, if_neg c3]
        exact ⟨rfl, h, Or.inr (Or.inr ⟨c3, rfl⟩)⟩
    · have i := in_no (v := p) (a := 1) (b := 20000) (Or.inr (Int32.not_le.mp c2))
      rw [if_neg c2, if_neg c2, if_neg c2, if_pos i, if_pos i]
      exact ⟨rfl, h, Or.inr (Or.inl ⟨i, rfl⟩)⟩
def stI (p q : Int32) : Prop := ¬ sr_X6_in p 0 2 = 0 ∧ ¬ sr_X6_in q (j20_0_X6_set p) (sr_X6_mostOf p) = 0
theorem set_rel {T : Nat} {f se to re ms : Nat → Int32} {p q : Int32} (h : LR T f se to re ms) (hs : ∀ k, k < 3 → -1000 ≤ (se k).toInt) : sr_X1_changeSetting se p q = sr_X6_set ms p q ∧ LR T f (sw1_X1_changeSetting se p q) to re (sw1_X6_set ms p q) ∧ (∀ k, k < 3 → -1000 ≤ (sw1_X1_changeSetting se p q k).toInt) ∧
    ((¬ sr_X6_in p 0 2 = 0 ∧ ¬ sr_X6_in q (j20_0_X6_set p) (sr_X6_mostOf p) = 0 ∧ sr_X5_isError (sr_X1_changeSetting se p q) = 0) ∨ ((sr_X6_in p 0 2 = 0 ∨ sr_X6_in q (j20_0_X6_set p) (sr_X6_mostOf p) = 0) ∧ sr_X1_changeSetting se p q = -1000000001)) := by
  unfold sr_X1_changeSetting sr_X6_set sw1_X1_changeSetting sw1_X6_set gv39_2_X6_set sr_X6_sets sw1_X6_sets
  by_cases c1 : p < 0
  · have i := in_no (v := p) (a := 0) (b := 2) (Or.inl c1)
    rw [if_pos c1, if_pos c1, if_pos i, if_pos i]
    exact ⟨rfl, h, hs, Or.inr ⟨Or.inl i, rfl⟩⟩
  · rw [if_neg c1, if_neg c1]
    obtain ⟨j1, j2⟩ := ag_nn c1
    by_cases c2 : p < 3
    · have b1 : p ≤ 2 := by rw [Int32.lt_iff_toInt_lt, show (3 : Int32).toInt = 3 from rfl] at c2; rw [Int32.le_iff_toInt_le, show (2 : Int32).toInt = 2 from rfl]; omega
      have i := in_yes c1 b1
      have j3 : p.toNatClampNeg ≤ 2 := by
        rw [j1] at b1
        exact (nI_leI (b := 2) j2 (by decide)).mp b1
      have e1 : j20_0_X6_set p = if p.toNatClampNeg = 1 then 0 else 1 := by
        unfold j20_0_X6_set
        by_cases c : p.toNatClampNeg = 1
        · rw [if_pos c, if_pos (show p = 1 from j1.trans (congrArg nI c))]
        · rw [if_neg c, if_neg (fun e => c (by rw [e]; rfl))]
      have e2 : sr_X6_mostOf p = if p.toNatClampNeg = 2 then 9999 else 400 := by
        unfold sr_X6_mostOf
        by_cases c : p.toNatClampNeg = 2
        · rw [if_pos c, if_pos (show p = 2 from j1.trans (congrArg nI c))]
        · rw [if_neg c, if_neg (fun e => c (by rw [e]; rfl))]
      rw [if_pos c2, if_pos c2, if_neg i, if_neg i, ← e1, ← e2]
      by_cases c3 : q < j20_0_X6_set p
      · have i2 := in_no (v := q) (a := j20_0_X6_set p) (b := sr_X6_mostOf p) (Or.inl c3)
        rw [if_pos c3, if_pos c3, if_pos i2, if_pos i2]
        exact ⟨rfl, h, hs, Or.inr ⟨Or.inr i2, rfl⟩⟩
      · rw [if_neg c3, if_neg c3]
        by_cases c4 : q ≤ sr_X6_mostOf p
        · have i2 := in_yes c3 c4
          rw [if_pos c4, if_pos c4, if_neg i2, if_neg i2]
          obtain ⟨hN, h1, h2, h3, h4, h5, h6⟩ := id h
          have q0 : -1000 ≤ q.toInt := by
            rw [Int32.lt_iff_toInt_lt, e1] at c3
            split at c3
            · have e0 : (0 : Int32).toInt = 0 := rfl
              omega
            · have e0 : (1 : Int32).toInt = 1 := rfl
              omega
          refine ⟨(h2 _ (by omega)).symm, ⟨hN, fun j hj => ?_, fun j hj => ?_, fun j hj => ?_, ⟨?_, fun j hj => ?_, fun j hj i hi => ?_⟩, h5, h6⟩, fun k hk => ?_, Or.inl ⟨i, i2, ok_of ?_⟩⟩
          · rw [upd_ne (by omega), h1 j hj]
          · by_cases c : j = p.toNatClampNeg
            · rw [c, upd_eq, upd_eq]
            · rw [upd_ne (by omega), upd_ne c, h2 j hj]
          · rw [upd_ne (by omega), h3 j hj]
          · rw [upd_ne (by omega), h4.1]
          · rw [upd_ne (by omega), h4.2.1 j hj]
          · rw [upd_ne (by omega), h4.2.2 j hj i hi]
          · by_cases c : k = p.toNatClampNeg
            · rw [c, upd_eq]; exact q0
            · rw [upd_ne c]; exact hs k hk
          · have := hs p.toNatClampNeg (by omega)
            omega
        · have i2 := in_no (v := q) (a := j20_0_X6_set p) (b := sr_X6_mostOf p) (Or.inr (Int32.not_le.mp c4))
          rw [if_neg c4, if_neg c4, if_pos i2, if_pos i2]
          exact ⟨rfl, h, hs, Or.inr ⟨Or.inr i2, rfl⟩⟩
    · have i := in_no (v := p) (a := 0) (b := 2) (Or.inr (by rw [Int32.lt_iff_toInt_lt, show (3 : Int32).toInt = 3 from rfl] at c2; rw [Int32.lt_iff_toInt_lt, show (2 : Int32).toInt = 2 from rfl]; omega))
      rw [if_neg c2, if_neg c2, if_pos i, if_pos i]
      exact ⟨rfl, h, hs, Or.inr ⟨Or.inl i, rfl⟩⟩
